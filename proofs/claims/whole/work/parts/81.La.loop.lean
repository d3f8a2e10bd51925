set_option maxHeartbeats 8000000 in
set_option maxRecDepth 100000 in
theorem law_loop {p : Program} {l : Launch} {e : Env} {s : State} {m : MethodId} {below : List Frame} {meth : Method} {c : Code} {D : va_G} {cI cG cZ : ClassId} {ad : Nat → Nat} {B N b L : Nat} {xs : Nat → Int32} {k0 k1 : Nat} (C0 : lw_At p s m meth c b L xs) (hK : va_K D classes [(cI, .int), (cG, .array .int), (cZ, .boolean)] s) (hB : B = s.heap.size) (dj0 : k0 + 63 ≤ k1 ∨ k1 + 21 ≤ k0) : ∀ (n : Nat) (x : T_Nd) (y : T_Mo) (v3 : Int32) (ws : va_W) (H : Heap) (locs : List Loc) (ls : Array Slot), va_P D classes ws H → va_D (fun q : Nat => B ≤ q) ws → va_S (fun q : Nat => B ≤ q) s.heap H locs → lv_has ls 4 [(0, .ref b), (1, .ref (ad k0)), (2, .ref (ad k1)), (3, .int v3)] → wc_Nd cI cG cZ ad k0 x ws → wc_Mo cI cG cZ ad k1 y ws → f_La_law N L xs n x y v3 = some 1 → W p l e room_1 s m #[Value.ref b] below meth c H locs 84 3231 (lw_Z below #[Value.ref b] s) (F0 m 18 ls []) := by
  obtain ⟨hx, hb, hr, hml, hown, htsA, hX, hbl, hlocks, hgv⟩ := id C0
  have hts : ∀ w ∈ hw_G, w.before #[Value.ref b] s = true := fun w h => htsA w (List.mem_filter.mp h).1
  have hN : hw_N s := fun w h => va_Nw.of (hw_isN_on (hw_NW_is w h)) (htsA w (List.mem_filter.mp h).1)
  have hbA : ¬ (fun q : Nat => B ≤ q) b := by rw [hB]; exact Nat.not_le.mpr hbl
  intro n
  induction n with
  | zero =>
    intro x y v3 ws H locs ls hP hD hS hl bk0_0 bk1_0 hf
    exact nomatch (show none = some _ from hf)
  | succ n ih =>
    intro x y v3 ws H locs ls hP hD hS hl bk0_0 bk1_0 hf
    rw [f_La_law] at hf
    refine lv_iload_n hx hb d_La_law_18 rfl (lv_at hl 3 rfl) ?_
    refine lv_aload_n hx hb d_La_law_19 rfl (lv_at hl 0 rfl) ?_
    refine va_slen hx hb hX hbl hbA hS d_La_law_20 ?_
    refine lv_bipush (v := 6) hx hb d_La_law_21 (by decide) ?_
    refine lv_isub hx hb d_La_law_23 ?_
    refine lv_icmp_gt (tgt := 508) hx hb d_La_law_24 (by decide) (fun c1 => ?_) (fun c1 => ?_)
    · rw [if_pos c1] at hf
      refine lv_iconst (v := 1) hx hb d_La_law_508 (by decide) ?_
      refine va_forget (fun q hq => by rw [← hB]; exact hS.2.2 q hq) ?_
      refine W.widen (k := 600000) (n := 7302250) (by decide) (by decide) ?_
      exact lw_ret hx hb hr hlocks d_La_law_509
    · rw [if_neg c1] at hf
      refine lv_aload_n hx hb d_La_law_27 rfl (lv_at hl 0 rfl) ?_
      refine lv_iload_n hx hb d_La_law_28 rfl (lv_at hl 3 rfl) ?_
      obtain ⟨z2, hf⟩ := g_atE hf
      refine va_sld hx hb hX hbl hbA hS z2 d_La_law_29 ?_
      refine lv_bipush (v := 15) hx hb d_La_law_30 (by decide) ?_
      refine lv_iand hx hb d_La_law_32 ?_
      by_cases c3 : (xs v3.toNatClampNeg) &&& 15 = 0
      · rw [if_pos c3] at hf
        refine lv_tableIn (tgt := 96) (off := 63) hx hb d_La_law_33 (by rw [c3]; decide) (by rw [c3]; decide) (by rw [c3]; rfl) (by decide) ?_
        refine lv_aload_n hx hb d_La_law_96 rfl (lv_at hl 1 rfl) ?_
        refine lv_aload_n hx hb d_La_law_97 rfl (lv_at hl 0 rfl) ?_
        refine lv_iload_n hx hb d_La_law_98 rfl (lv_at hl 3 rfl) ?_
        refine lv_iconst (v := 1) hx hb d_La_law_99 (by decide) ?_
        refine lv_iadd hx hb d_La_law_100 ?_
        obtain ⟨z4, hf⟩ := g_atE hf
        refine va_sld hx hb hX hbl hbA hS z4 d_La_law_101 ?_
        refine lv_aload_n hx hb d_La_law_102 rfl (lv_at hl 0 rfl) ?_
        refine lv_iload_n hx hb d_La_law_103 rfl (lv_at hl 3 rfl) ?_
        refine lv_iconst (v := 2) hx hb d_La_law_104 (by decide) ?_
        refine lv_iadd hx hb d_La_law_105 ?_
        obtain ⟨z5, hf⟩ := g_atE hf
        refine va_sld hx hb hX hbl hbA hS z5 d_La_law_106 ?_
        refine lv_aload_n hx hb d_La_law_107 rfl (lv_at hl 0 rfl) ?_
        refine lv_iload_n hx hb d_La_law_108 rfl (lv_at hl 3 rfl) ?_
        refine lv_iconst (v := 3) hx hb d_La_law_109 (by decide) ?_
        refine lv_iadd hx hb d_La_law_110 ?_
        obtain ⟨z6, hf⟩ := g_atE hf
        refine va_sld hx hb hX hbl hbA hS z6 d_La_law_111 ?_
        refine lv_aload_n hx hb d_La_law_112 rfl (lv_at hl 0 rfl) ?_
        refine lv_iload_n hx hb d_La_law_113 rfl (lv_at hl 3 rfl) ?_
        refine lv_iconst (v := 4) hx hb d_La_law_114 (by decide) ?_
        refine lv_iadd hx hb d_La_law_115 ?_
        obtain ⟨z7, hf⟩ := g_atE hf
        refine va_sld hx hb hX hbl hbA hS z7 d_La_law_116 ?_
        refine lv_aload_n hx hb d_La_law_117 rfl (lv_at hl 0 rfl) ?_
        refine lv_iload_n hx hb d_La_law_118 rfl (lv_at hl 3 rfl) ?_
        refine lv_iconst (v := 5) hx hb d_La_law_119 (by decide) ?_
        refine lv_iadd hx hb d_La_law_120 ?_
        obtain ⟨z8, hf⟩ := g_atE hf
        refine va_sld hx hb hX hbl hbA hS z8 d_La_law_121 ?_
        obtain ⟨p9, hp9, hf⟩ := g_bd hf
        refine hw_ci (va_runV (As := [.int (xs (v3 + 1).toNatClampNeg), .int (xs (v3 + 2).toNatClampNeg), .int (xs (v3 + 3).toNatClampNeg), .int (xs (v3 + 4).toNatClampNeg), .int (xs (v3 + 5).toNatClampNeg)]) (rest := []) ⟨hx, hb, hml, hown, hts⟩ (c_Nd_put l D cI cG cZ ad B ws N k0 x.1 x.2.1 x.2.2.1 x.2.2.2.1 x.2.2.2.2.1 x.2.2.2.2.2 (xs (v3 + 1).toNatClampNeg) (xs (v3 + 2).toNatClampNeg) (xs (v3 + 3).toNatClampNeg) (xs (v3 + 4).toNatClampNeg) (xs (v3 + 5).toNatClampNeg) p9.1 p9.2.1 p9.2.2 hp9 bk0_0) (cwV 5 hts (hw_gV iw_175 gy_Nd_put) rfl rfl rfl (by decide +kernel) ⟨Nat.le_of_ble_eq_true rfl, Nat.le_of_ble_eq_true rfl⟩) ⟨hw_blind, va_recv hK hP (ci := 6) (q0 := k0) rfl bk0_0.1, hw_go hP hD hK hN⟩ rfl rfl hl.1 rfl (lv_room (Nat.le_of_ble_eq_true rfl)) d_La_law_122 ⟨Nat.le_of_ble_eq_true rfl, Nat.le_of_ble_eq_true rfl⟩) hS (fun w10 H locs hP hD hS hpp => ?_)
        obtain ⟨q0, frc⟩ := hpp
        have bk0_0 : wc_Nd cI cG cZ ad (k0) (p9.2.1, p9.2.2, x.2.2.1, x.2.2.2.1, x.2.2.2.2.1, x.2.2.2.2.2) w10 := q0
        have bk1_0 : wc_Mo cI cG cZ ad (k1) y w10 := bk1_0.fr (fun j h1 h2 => frc j (by omega))
        refine lv_aload_n hx hb d_La_law_125 rfl (lv_at hl 2 rfl) ?_
        refine lv_aload_n hx hb d_La_law_126 rfl (lv_at hl 0 rfl) ?_
        refine lv_iload_n hx hb d_La_law_127 rfl (lv_at hl 3 rfl) ?_
        refine lv_iconst (v := 1) hx hb d_La_law_128 (by decide) ?_
        refine lv_iadd hx hb d_La_law_129 ?_
        obtain ⟨z11, hf⟩ := g_atE hf
        refine va_sld hx hb hX hbl hbA hS z11 d_La_law_130 ?_
        refine lv_aload_n hx hb d_La_law_131 rfl (lv_at hl 0 rfl) ?_
        refine lv_iload_n hx hb d_La_law_132 rfl (lv_at hl 3 rfl) ?_
        refine lv_iconst (v := 2) hx hb d_La_law_133 (by decide) ?_
        refine lv_iadd hx hb d_La_law_134 ?_
        obtain ⟨z12, hf⟩ := g_atE hf
        refine va_sld hx hb hX hbl hbA hS z12 d_La_law_135 ?_
        refine lv_aload_n hx hb d_La_law_136 rfl (lv_at hl 0 rfl) ?_
        refine lv_iload_n hx hb d_La_law_137 rfl (lv_at hl 3 rfl) ?_
        refine lv_iconst (v := 3) hx hb d_La_law_138 (by decide) ?_
        refine lv_iadd hx hb d_La_law_139 ?_
        obtain ⟨z13, hf⟩ := g_atE hf
        refine va_sld hx hb hX hbl hbA hS z13 d_La_law_140 ?_
        refine lv_aload_n hx hb d_La_law_141 rfl (lv_at hl 0 rfl) ?_
        refine lv_iload_n hx hb d_La_law_142 rfl (lv_at hl 3 rfl) ?_
        refine lv_iconst (v := 4) hx hb d_La_law_143 (by decide) ?_
        refine lv_iadd hx hb d_La_law_144 ?_
        obtain ⟨z14, hf⟩ := g_atE hf
        refine va_sld hx hb hX hbl hbA hS z14 d_La_law_145 ?_
        refine lv_aload_n hx hb d_La_law_146 rfl (lv_at hl 0 rfl) ?_
        refine lv_iload_n hx hb d_La_law_147 rfl (lv_at hl 3 rfl) ?_
        refine lv_iconst (v := 5) hx hb d_La_law_148 (by decide) ?_
        refine lv_iadd hx hb d_La_law_149 ?_
        obtain ⟨z15, hf⟩ := g_atE hf
        refine va_sld hx hb hX hbl hbA hS z15 d_La_law_150 ?_
        obtain ⟨p16, hp16, hf⟩ := g_bd hf
        refine hw_ci (va_runV (As := [.int (xs (v3 + 1).toNatClampNeg), .int (xs (v3 + 2).toNatClampNeg), .int (xs (v3 + 3).toNatClampNeg), .int (xs (v3 + 4).toNatClampNeg), .int (xs (v3 + 5).toNatClampNeg)]) (rest := [.int p9.1]) ⟨hx, hb, hml, hown, hts⟩ (c_Mo_put l D cI cG cZ ad B w10 N k1 y.1 y.2.1 y.2.2.1 y.2.2.2.1 y.2.2.2.2.1 y.2.2.2.2.2.1 y.2.2.2.2.2.2.1 y.2.2.2.2.2.2.2.1 y.2.2.2.2.2.2.2.2.1 y.2.2.2.2.2.2.2.2.2.1 y.2.2.2.2.2.2.2.2.2.2.1 y.2.2.2.2.2.2.2.2.2.2.2.1 y.2.2.2.2.2.2.2.2.2.2.2.2.1 y.2.2.2.2.2.2.2.2.2.2.2.2.2.1 y.2.2.2.2.2.2.2.2.2.2.2.2.2.2.1 y.2.2.2.2.2.2.2.2.2.2.2.2.2.2.2.1 y.2.2.2.2.2.2.2.2.2.2.2.2.2.2.2.2.1 y.2.2.2.2.2.2.2.2.2.2.2.2.2.2.2.2.2.1 y.2.2.2.2.2.2.2.2.2.2.2.2.2.2.2.2.2.2.1 y.2.2.2.2.2.2.2.2.2.2.2.2.2.2.2.2.2.2.2.1 y.2.2.2.2.2.2.2.2.2.2.2.2.2.2.2.2.2.2.2.2.1 y.2.2.2.2.2.2.2.2.2.2.2.2.2.2.2.2.2.2.2.2.2.1 y.2.2.2.2.2.2.2.2.2.2.2.2.2.2.2.2.2.2.2.2.2.2.1 y.2.2.2.2.2.2.2.2.2.2.2.2.2.2.2.2.2.2.2.2.2.2.2.1 y.2.2.2.2.2.2.2.2.2.2.2.2.2.2.2.2.2.2.2.2.2.2.2.2.1 y.2.2.2.2.2.2.2.2.2.2.2.2.2.2.2.2.2.2.2.2.2.2.2.2.2.1 y.2.2.2.2.2.2.2.2.2.2.2.2.2.2.2.2.2.2.2.2.2.2.2.2.2.2.1 y.2.2.2.2.2.2.2.2.2.2.2.2.2.2.2.2.2.2.2.2.2.2.2.2.2.2.2 (xs (v3 + 1).toNatClampNeg) (xs (v3 + 2).toNatClampNeg) (xs (v3 + 3).toNatClampNeg) (xs (v3 + 4).toNatClampNeg) (xs (v3 + 5).toNatClampNeg) p16.1 p16.2.1 p16.2.2.1 p16.2.2.2.1 p16.2.2.2.2.1 p16.2.2.2.2.2.1 p16.2.2.2.2.2.2.1 p16.2.2.2.2.2.2.2.1 p16.2.2.2.2.2.2.2.2.1 p16.2.2.2.2.2.2.2.2.2.1 p16.2.2.2.2.2.2.2.2.2.2.1 p16.2.2.2.2.2.2.2.2.2.2.2.1 p16.2.2.2.2.2.2.2.2.2.2.2.2.1 p16.2.2.2.2.2.2.2.2.2.2.2.2.2.1 p16.2.2.2.2.2.2.2.2.2.2.2.2.2.2.1 p16.2.2.2.2.2.2.2.2.2.2.2.2.2.2.2.1 p16.2.2.2.2.2.2.2.2.2.2.2.2.2.2.2.2.1 p16.2.2.2.2.2.2.2.2.2.2.2.2.2.2.2.2.2.1 p16.2.2.2.2.2.2.2.2.2.2.2.2.2.2.2.2.2.2.1 p16.2.2.2.2.2.2.2.2.2.2.2.2.2.2.2.2.2.2.2.1 p16.2.2.2.2.2.2.2.2.2.2.2.2.2.2.2.2.2.2.2.2.1 p16.2.2.2.2.2.2.2.2.2.2.2.2.2.2.2.2.2.2.2.2.2.1 p16.2.2.2.2.2.2.2.2.2.2.2.2.2.2.2.2.2.2.2.2.2.2 hp16 bk1_0) (cwV 5 hts (hw_gV iw_655 gy_Mo_put) rfl rfl rfl (by decide +kernel) ⟨Nat.le_of_ble_eq_true rfl, Nat.le_of_ble_eq_true rfl⟩) ⟨hw_blind, va_recv hK hP (ci := 7) (q0 := k1) rfl bk1_0.1, hw_go hP hD hK hN⟩ rfl rfl hl.1 rfl (lv_room (Nat.le_of_ble_eq_true rfl)) d_La_law_151 ⟨Nat.le_of_ble_eq_true rfl, Nat.le_of_ble_eq_true rfl⟩) hS (fun w17 H locs hP hD hS hpp => ?_)
        obtain ⟨q0, frc⟩ := hpp
        have bk1_0 : wc_Mo cI cG cZ ad (k1) (p16.2.1, p16.2.2.1, p16.2.2.2.1, p16.2.2.2.2.1, p16.2.2.2.2.2.1, p16.2.2.2.2.2.2.1, p16.2.2.2.2.2.2.2.1, p16.2.2.2.2.2.2.2.2.1, p16.2.2.2.2.2.2.2.2.2.1, p16.2.2.2.2.2.2.2.2.2.2.1, p16.2.2.2.2.2.2.2.2.2.2.2.1, y.2.2.2.2.2.2.2.2.2.2.2.1, p16.2.2.2.2.2.2.2.2.2.2.2.2.1, p16.2.2.2.2.2.2.2.2.2.2.2.2.2.1, p16.2.2.2.2.2.2.2.2.2.2.2.2.2.2.1, p16.2.2.2.2.2.2.2.2.2.2.2.2.2.2.2.1, p16.2.2.2.2.2.2.2.2.2.2.2.2.2.2.2.2.1, p16.2.2.2.2.2.2.2.2.2.2.2.2.2.2.2.2.2.1, p16.2.2.2.2.2.2.2.2.2.2.2.2.2.2.2.2.2.2.1, p16.2.2.2.2.2.2.2.2.2.2.2.2.2.2.2.2.2.2.2.1, p16.2.2.2.2.2.2.2.2.2.2.2.2.2.2.2.2.2.2.2.2.1, p16.2.2.2.2.2.2.2.2.2.2.2.2.2.2.2.2.2.2.2.2.2.1, y.2.2.2.2.2.2.2.2.2.2.2.2.2.2.2.2.2.2.2.2.2.2.1, y.2.2.2.2.2.2.2.2.2.2.2.2.2.2.2.2.2.2.2.2.2.2.2.1, y.2.2.2.2.2.2.2.2.2.2.2.2.2.2.2.2.2.2.2.2.2.2.2.2.1, y.2.2.2.2.2.2.2.2.2.2.2.2.2.2.2.2.2.2.2.2.2.2.2.2.2.1, y.2.2.2.2.2.2.2.2.2.2.2.2.2.2.2.2.2.2.2.2.2.2.2.2.2.2.1, p16.2.2.2.2.2.2.2.2.2.2.2.2.2.2.2.2.2.2.2.2.2.2) w17 := q0
        have bk0_0 : wc_Nd cI cG cZ ad (k0) (p9.2.1, p9.2.2, x.2.2.1, x.2.2.2.1, x.2.2.2.2.1, x.2.2.2.2.2) w17 := bk0_0.fr (fun j h1 h2 => frc j (by omega))
        refine lv_icmp_eq (tgt := 502) hx hb d_La_law_154 (by decide) (fun c18 => ?_) (fun c18 => ?_)
        · rw [if_pos c18] at hf
          refine lv_iinc (v := v3 + 6) (lv' := [(3, .int (v3 + 6)), (0, .ref b), (1, .ref (ad k0)), (2, .ref (ad k1))]) hx hb d_La_law_502 hl (k := 3) rfl rfl (by decide) rfl (fun ls hl => ?_)
          refine lv_goto (tgt := 18) hx hb d_La_law_505 (by decide) ?_
          exact ih (p9.2.1, p9.2.2, x.2.2.1, x.2.2.2.1, x.2.2.2.2.1, x.2.2.2.2.2) (p16.2.1, p16.2.2.1, p16.2.2.2.1, p16.2.2.2.2.1, p16.2.2.2.2.2.1, p16.2.2.2.2.2.2.1, p16.2.2.2.2.2.2.2.1, p16.2.2.2.2.2.2.2.2.1, p16.2.2.2.2.2.2.2.2.2.1, p16.2.2.2.2.2.2.2.2.2.2.1, p16.2.2.2.2.2.2.2.2.2.2.2.1, y.2.2.2.2.2.2.2.2.2.2.2.1, p16.2.2.2.2.2.2.2.2.2.2.2.2.1, p16.2.2.2.2.2.2.2.2.2.2.2.2.2.1, p16.2.2.2.2.2.2.2.2.2.2.2.2.2.2.1, p16.2.2.2.2.2.2.2.2.2.2.2.2.2.2.2.1, p16.2.2.2.2.2.2.2.2.2.2.2.2.2.2.2.2.1, p16.2.2.2.2.2.2.2.2.2.2.2.2.2.2.2.2.2.1, p16.2.2.2.2.2.2.2.2.2.2.2.2.2.2.2.2.2.2.1, p16.2.2.2.2.2.2.2.2.2.2.2.2.2.2.2.2.2.2.2.1, p16.2.2.2.2.2.2.2.2.2.2.2.2.2.2.2.2.2.2.2.2.1, p16.2.2.2.2.2.2.2.2.2.2.2.2.2.2.2.2.2.2.2.2.2.1, y.2.2.2.2.2.2.2.2.2.2.2.2.2.2.2.2.2.2.2.2.2.2.1, y.2.2.2.2.2.2.2.2.2.2.2.2.2.2.2.2.2.2.2.2.2.2.2.1, y.2.2.2.2.2.2.2.2.2.2.2.2.2.2.2.2.2.2.2.2.2.2.2.2.1, y.2.2.2.2.2.2.2.2.2.2.2.2.2.2.2.2.2.2.2.2.2.2.2.2.2.1, y.2.2.2.2.2.2.2.2.2.2.2.2.2.2.2.2.2.2.2.2.2.2.2.2.2.2.1, p16.2.2.2.2.2.2.2.2.2.2.2.2.2.2.2.2.2.2.2.2.2.2) (v3 + 6) _ _ _ _ hP hD hS (lv_sub hl [1, 2, 3, 0] rfl) bk0_0 bk1_0 hf
        · rw [if_neg c18] at hf
          refine lv_iconst (v := 0) hx hb d_La_law_157 (by decide) ?_
          exact absurd (Option.some.inj hf) (by decide)
      · rw [if_neg c3] at hf
        by_cases c19 : (xs v3.toNatClampNeg) &&& 15 = 1
        · rw [if_pos c19] at hf
          refine lv_tableIn (tgt := 159) (off := 126) hx hb d_La_law_33 (by rw [c19]; decide) (by rw [c19]; decide) (by rw [c19]; rfl) (by decide) ?_
          refine lv_aload_n hx hb d_La_law_159 rfl (lv_at hl 1 rfl) ?_
          refine lv_aload_n hx hb d_La_law_160 rfl (lv_at hl 0 rfl) ?_
          refine lv_iload_n hx hb d_La_law_161 rfl (lv_at hl 3 rfl) ?_
          refine lv_iconst (v := 1) hx hb d_La_law_162 (by decide) ?_
          refine lv_iadd hx hb d_La_law_163 ?_
          obtain ⟨z20, hf⟩ := g_atE hf
          refine va_sld hx hb hX hbl hbA hS z20 d_La_law_164 ?_
          obtain ⟨p21, hp21, hf⟩ := g_bd hf
          refine hw_ci (va_runV (As := [.int (xs (v3 + 1).toNatClampNeg)]) (rest := []) ⟨hx, hb, hml, hown, hts⟩ (c_Nd_remove l D cI cG cZ ad B ws N k0 x.1 x.2.1 x.2.2.1 x.2.2.2.1 x.2.2.2.2.1 x.2.2.2.2.2 (xs (v3 + 1).toNatClampNeg) p21.1 p21.2 hp21 bk0_0) (cwV 1 hts (hw_gV iw_366 gy_Nd_remove) rfl rfl rfl (by decide +kernel) ⟨Nat.le_of_ble_eq_true rfl, Nat.le_of_ble_eq_true rfl⟩) ⟨hw_blind, va_recv hK hP (ci := 6) (q0 := k0) rfl bk0_0.1, hw_go hP hD hK hN⟩ rfl rfl hl.1 rfl (lv_room (Nat.le_of_ble_eq_true rfl)) d_La_law_165 ⟨Nat.le_of_ble_eq_true rfl, Nat.le_of_ble_eq_true rfl⟩) hS (fun w22 H locs hP hD hS hpp => ?_)
          obtain ⟨q0, frc⟩ := hpp
          have bk0_0 : wc_Nd cI cG cZ ad (k0) (p21.2, x.2.1, x.2.2.1, x.2.2.2.1, x.2.2.2.2.1, x.2.2.2.2.2) w22 := q0
          have bk1_0 : wc_Mo cI cG cZ ad (k1) y w22 := bk1_0.fr (fun j h1 h2 => frc j (by omega))
          refine lv_aload_n hx hb d_La_law_168 rfl (lv_at hl 2 rfl) ?_
          refine lv_aload_n hx hb d_La_law_169 rfl (lv_at hl 0 rfl) ?_
          refine lv_iload_n hx hb d_La_law_170 rfl (lv_at hl 3 rfl) ?_
          refine lv_iconst (v := 1) hx hb d_La_law_171 (by decide) ?_
          refine lv_iadd hx hb d_La_law_172 ?_
          obtain ⟨z23, hf⟩ := g_atE hf
          refine va_sld hx hb hX hbl hbA hS z23 d_La_law_173 ?_
          obtain ⟨p24, hp24, hf⟩ := g_bd hf
          refine hw_ci (va_runV (As := [.int (xs (v3 + 1).toNatClampNeg)]) (rest := [.int p21.1]) ⟨hx, hb, hml, hown, hts⟩ (c_Mo_remove l D cI cG cZ ad B w22 N k1 y.1 y.2.1 y.2.2.1 y.2.2.2.1 y.2.2.2.2.1 y.2.2.2.2.2.1 y.2.2.2.2.2.2.1 y.2.2.2.2.2.2.2.1 y.2.2.2.2.2.2.2.2.1 y.2.2.2.2.2.2.2.2.2.1 y.2.2.2.2.2.2.2.2.2.2.1 y.2.2.2.2.2.2.2.2.2.2.2.1 y.2.2.2.2.2.2.2.2.2.2.2.2.1 y.2.2.2.2.2.2.2.2.2.2.2.2.2.1 y.2.2.2.2.2.2.2.2.2.2.2.2.2.2.1 y.2.2.2.2.2.2.2.2.2.2.2.2.2.2.2.1 y.2.2.2.2.2.2.2.2.2.2.2.2.2.2.2.2.1 y.2.2.2.2.2.2.2.2.2.2.2.2.2.2.2.2.2.1 y.2.2.2.2.2.2.2.2.2.2.2.2.2.2.2.2.2.2.1 y.2.2.2.2.2.2.2.2.2.2.2.2.2.2.2.2.2.2.2.1 y.2.2.2.2.2.2.2.2.2.2.2.2.2.2.2.2.2.2.2.2.1 y.2.2.2.2.2.2.2.2.2.2.2.2.2.2.2.2.2.2.2.2.2.1 y.2.2.2.2.2.2.2.2.2.2.2.2.2.2.2.2.2.2.2.2.2.2.1 y.2.2.2.2.2.2.2.2.2.2.2.2.2.2.2.2.2.2.2.2.2.2.2.1 y.2.2.2.2.2.2.2.2.2.2.2.2.2.2.2.2.2.2.2.2.2.2.2.2.1 y.2.2.2.2.2.2.2.2.2.2.2.2.2.2.2.2.2.2.2.2.2.2.2.2.2.1 y.2.2.2.2.2.2.2.2.2.2.2.2.2.2.2.2.2.2.2.2.2.2.2.2.2.2.1 y.2.2.2.2.2.2.2.2.2.2.2.2.2.2.2.2.2.2.2.2.2.2.2.2.2.2.2 (xs (v3 + 1).toNatClampNeg) p24.1 p24.2 hp24 bk1_0) (cwV 1 hts (hw_gV iw_718 gy_Mo_remove) rfl rfl rfl (by decide +kernel) ⟨Nat.le_of_ble_eq_true rfl, Nat.le_of_ble_eq_true rfl⟩) ⟨hw_blind, va_recv hK hP (ci := 7) (q0 := k1) rfl bk1_0.1, hw_go hP hD hK hN⟩ rfl rfl hl.1 rfl (lv_room (Nat.le_of_ble_eq_true rfl)) d_La_law_174 ⟨Nat.le_of_ble_eq_true rfl, Nat.le_of_ble_eq_true rfl⟩) hS (fun w25 H locs hP hD hS hpp => ?_)
          obtain ⟨q0, frc⟩ := hpp
          have bk1_0 : wc_Mo cI cG cZ ad (k1) (y.1, p24.2, y.2.2.1, y.2.2.2.1, y.2.2.2.2.1, y.2.2.2.2.2.1, y.2.2.2.2.2.2.1, y.2.2.2.2.2.2.2.1, y.2.2.2.2.2.2.2.2.1, y.2.2.2.2.2.2.2.2.2.1, y.2.2.2.2.2.2.2.2.2.2.1, y.2.2.2.2.2.2.2.2.2.2.2.1, y.2.2.2.2.2.2.2.2.2.2.2.2.1, y.2.2.2.2.2.2.2.2.2.2.2.2.2.1, y.2.2.2.2.2.2.2.2.2.2.2.2.2.2.1, y.2.2.2.2.2.2.2.2.2.2.2.2.2.2.2.1, y.2.2.2.2.2.2.2.2.2.2.2.2.2.2.2.2.1, y.2.2.2.2.2.2.2.2.2.2.2.2.2.2.2.2.2.1, y.2.2.2.2.2.2.2.2.2.2.2.2.2.2.2.2.2.2.1, y.2.2.2.2.2.2.2.2.2.2.2.2.2.2.2.2.2.2.2.1, y.2.2.2.2.2.2.2.2.2.2.2.2.2.2.2.2.2.2.2.2.1, y.2.2.2.2.2.2.2.2.2.2.2.2.2.2.2.2.2.2.2.2.2.1, y.2.2.2.2.2.2.2.2.2.2.2.2.2.2.2.2.2.2.2.2.2.2.1, y.2.2.2.2.2.2.2.2.2.2.2.2.2.2.2.2.2.2.2.2.2.2.2.1, y.2.2.2.2.2.2.2.2.2.2.2.2.2.2.2.2.2.2.2.2.2.2.2.2.1, y.2.2.2.2.2.2.2.2.2.2.2.2.2.2.2.2.2.2.2.2.2.2.2.2.2.1, y.2.2.2.2.2.2.2.2.2.2.2.2.2.2.2.2.2.2.2.2.2.2.2.2.2.2.1, y.2.2.2.2.2.2.2.2.2.2.2.2.2.2.2.2.2.2.2.2.2.2.2.2.2.2.2) w25 := q0
          have bk0_0 : wc_Nd cI cG cZ ad (k0) (p21.2, x.2.1, x.2.2.1, x.2.2.2.1, x.2.2.2.2.1, x.2.2.2.2.2) w25 := bk0_0.fr (fun j h1 h2 => frc j (by omega))
          refine lv_icmp_eq (tgt := 502) hx hb d_La_law_177 (by decide) (fun c26 => ?_) (fun c26 => ?_)
          · rw [if_pos c26] at hf
            refine lv_iinc (v := v3 + 6) (lv' := [(3, .int (v3 + 6)), (0, .ref b), (1, .ref (ad k0)), (2, .ref (ad k1))]) hx hb d_La_law_502 hl (k := 3) rfl rfl (by decide) rfl (fun ls hl => ?_)
            refine lv_goto (tgt := 18) hx hb d_La_law_505 (by decide) ?_
            exact ih (p21.2, x.2.1, x.2.2.1, x.2.2.2.1, x.2.2.2.2.1, x.2.2.2.2.2) (y.1, p24.2, y.2.2.1, y.2.2.2.1, y.2.2.2.2.1, y.2.2.2.2.2.1, y.2.2.2.2.2.2.1, y.2.2.2.2.2.2.2.1, y.2.2.2.2.2.2.2.2.1, y.2.2.2.2.2.2.2.2.2.1, y.2.2.2.2.2.2.2.2.2.2.1, y.2.2.2.2.2.2.2.2.2.2.2.1, y.2.2.2.2.2.2.2.2.2.2.2.2.1, y.2.2.2.2.2.2.2.2.2.2.2.2.2.1, y.2.2.2.2.2.2.2.2.2.2.2.2.2.2.1, y.2.2.2.2.2.2.2.2.2.2.2.2.2.2.2.1, y.2.2.2.2.2.2.2.2.2.2.2.2.2.2.2.2.1, y.2.2.2.2.2.2.2.2.2.2.2.2.2.2.2.2.2.1, y.2.2.2.2.2.2.2.2.2.2.2.2.2.2.2.2.2.2.1, y.2.2.2.2.2.2.2.2.2.2.2.2.2.2.2.2.2.2.2.1, y.2.2.2.2.2.2.2.2.2.2.2.2.2.2.2.2.2.2.2.2.1, y.2.2.2.2.2.2.2.2.2.2.2.2.2.2.2.2.2.2.2.2.2.1, y.2.2.2.2.2.2.2.2.2.2.2.2.2.2.2.2.2.2.2.2.2.2.1, y.2.2.2.2.2.2.2.2.2.2.2.2.2.2.2.2.2.2.2.2.2.2.2.1, y.2.2.2.2.2.2.2.2.2.2.2.2.2.2.2.2.2.2.2.2.2.2.2.2.1, y.2.2.2.2.2.2.2.2.2.2.2.2.2.2.2.2.2.2.2.2.2.2.2.2.2.1, y.2.2.2.2.2.2.2.2.2.2.2.2.2.2.2.2.2.2.2.2.2.2.2.2.2.2.1, y.2.2.2.2.2.2.2.2.2.2.2.2.2.2.2.2.2.2.2.2.2.2.2.2.2.2.2) (v3 + 6) _ _ _ _ hP hD hS (lv_sub hl [1, 2, 3, 0] rfl) bk0_0 bk1_0 hf
          · rw [if_neg c26] at hf
            refine lv_iconst (v := 0) hx hb d_La_law_180 (by decide) ?_
            exact absurd (Option.some.inj hf) (by decide)
        · rw [if_neg c19] at hf
          by_cases c27 : (xs v3.toNatClampNeg) &&& 15 = 2
          · rw [if_pos c27] at hf
            refine lv_tableIn (tgt := 182) (off := 149) hx hb d_La_law_33 (by rw [c27]; decide) (by rw [c27]; decide) (by rw [c27]; rfl) (by decide) ?_
            refine lv_aload_n hx hb d_La_law_182 rfl (lv_at hl 1 rfl) ?_
            obtain ⟨p28, hp28, hf⟩ := g_bd hf
            refine hw_ci (va_runV (As := []) (rest := []) ⟨hx, hb, hml, hown, hts⟩ (c_Nd_renew l D cI cG cZ ad B ws N k0 x.1 x.2.1 x.2.2.1 x.2.2.2.1 x.2.2.2.2.1 x.2.2.2.2.2 p28.1 p28.2 hp28 bk0_0) (cwV 0 hts (hw_gV iw_382 gy_Nd_renew) rfl rfl rfl (by decide +kernel) ⟨Nat.le_of_ble_eq_true rfl, Nat.le_of_ble_eq_true rfl⟩) ⟨hw_blind, va_recv hK hP (ci := 6) (q0 := k0) rfl bk0_0.1, hw_go hP hD hK hN⟩ rfl rfl hl.1 rfl (lv_room (Nat.le_of_ble_eq_true rfl)) d_La_law_183 ⟨Nat.le_of_ble_eq_true rfl, Nat.le_of_ble_eq_true rfl⟩) hS (fun w29 H locs hP hD hS hpp => ?_)
            obtain ⟨q0, frc⟩ := hpp
            have bk0_0 : wc_Nd cI cG cZ ad (k0) (x.1, p28.2, x.2.2.1, x.2.2.2.1, x.2.2.2.2.1, x.2.2.2.2.2) w29 := q0
            have bk1_0 : wc_Mo cI cG cZ ad (k1) y w29 := bk1_0.fr (fun j h1 h2 => frc j (by omega))
            refine lv_aload_n hx hb d_La_law_186 rfl (lv_at hl 2 rfl) ?_
            obtain ⟨p30, hp30, hf⟩ := g_bd hf
            refine hw_ci (va_runV (As := []) (rest := [.int p28.1]) ⟨hx, hb, hml, hown, hts⟩ (c_Mo_renew l D cI cG cZ ad B w29 N k1 y.1 y.2.1 y.2.2.1 y.2.2.2.1 y.2.2.2.2.1 y.2.2.2.2.2.1 y.2.2.2.2.2.2.1 y.2.2.2.2.2.2.2.1 y.2.2.2.2.2.2.2.2.1 y.2.2.2.2.2.2.2.2.2.1 y.2.2.2.2.2.2.2.2.2.2.1 y.2.2.2.2.2.2.2.2.2.2.2.1 y.2.2.2.2.2.2.2.2.2.2.2.2.1 y.2.2.2.2.2.2.2.2.2.2.2.2.2.1 y.2.2.2.2.2.2.2.2.2.2.2.2.2.2.1 y.2.2.2.2.2.2.2.2.2.2.2.2.2.2.2.1 y.2.2.2.2.2.2.2.2.2.2.2.2.2.2.2.2.1 y.2.2.2.2.2.2.2.2.2.2.2.2.2.2.2.2.2.1 y.2.2.2.2.2.2.2.2.2.2.2.2.2.2.2.2.2.2.1 y.2.2.2.2.2.2.2.2.2.2.2.2.2.2.2.2.2.2.2.1 y.2.2.2.2.2.2.2.2.2.2.2.2.2.2.2.2.2.2.2.2.1 y.2.2.2.2.2.2.2.2.2.2.2.2.2.2.2.2.2.2.2.2.2.1 y.2.2.2.2.2.2.2.2.2.2.2.2.2.2.2.2.2.2.2.2.2.2.1 y.2.2.2.2.2.2.2.2.2.2.2.2.2.2.2.2.2.2.2.2.2.2.2.1 y.2.2.2.2.2.2.2.2.2.2.2.2.2.2.2.2.2.2.2.2.2.2.2.2.1 y.2.2.2.2.2.2.2.2.2.2.2.2.2.2.2.2.2.2.2.2.2.2.2.2.2.1 y.2.2.2.2.2.2.2.2.2.2.2.2.2.2.2.2.2.2.2.2.2.2.2.2.2.2.1 y.2.2.2.2.2.2.2.2.2.2.2.2.2.2.2.2.2.2.2.2.2.2.2.2.2.2.2 p30.1 p30.2.1 p30.2.2.1 p30.2.2.2.1 p30.2.2.2.2.1 p30.2.2.2.2.2.1 p30.2.2.2.2.2.2.1 p30.2.2.2.2.2.2.2.1 p30.2.2.2.2.2.2.2.2.1 p30.2.2.2.2.2.2.2.2.2.1 p30.2.2.2.2.2.2.2.2.2.2.1 p30.2.2.2.2.2.2.2.2.2.2.2.1 p30.2.2.2.2.2.2.2.2.2.2.2.2.1 p30.2.2.2.2.2.2.2.2.2.2.2.2.2.1 p30.2.2.2.2.2.2.2.2.2.2.2.2.2.2.1 p30.2.2.2.2.2.2.2.2.2.2.2.2.2.2.2.1 p30.2.2.2.2.2.2.2.2.2.2.2.2.2.2.2.2.1 p30.2.2.2.2.2.2.2.2.2.2.2.2.2.2.2.2.2.1 p30.2.2.2.2.2.2.2.2.2.2.2.2.2.2.2.2.2.2.1 p30.2.2.2.2.2.2.2.2.2.2.2.2.2.2.2.2.2.2.2.1 p30.2.2.2.2.2.2.2.2.2.2.2.2.2.2.2.2.2.2.2.2 hp30 bk1_0) (cwV 0 hts (hw_gV iw_722 gy_Mo_renew) rfl rfl rfl (by decide +kernel) ⟨Nat.le_of_ble_eq_true rfl, Nat.le_of_ble_eq_true rfl⟩) ⟨hw_blind, va_recv hK hP (ci := 7) (q0 := k1) rfl bk1_0.1, hw_go hP hD hK hN⟩ rfl rfl hl.1 rfl (lv_room (Nat.le_of_ble_eq_true rfl)) d_La_law_187 ⟨Nat.le_of_ble_eq_true rfl, Nat.le_of_ble_eq_true rfl⟩) hS (fun w31 H locs hP hD hS hpp => ?_)
            obtain ⟨q0, frc⟩ := hpp
            have bk1_0 : wc_Mo cI cG cZ ad (k1) (p30.2.1, p30.2.2.1, y.2.2.1, y.2.2.2.1, p30.2.2.2.1, p30.2.2.2.2.1, p30.2.2.2.2.2.1, p30.2.2.2.2.2.2.1, p30.2.2.2.2.2.2.2.1, p30.2.2.2.2.2.2.2.2.1, p30.2.2.2.2.2.2.2.2.2.1, y.2.2.2.2.2.2.2.2.2.2.2.1, p30.2.2.2.2.2.2.2.2.2.2.1, p30.2.2.2.2.2.2.2.2.2.2.2.1, p30.2.2.2.2.2.2.2.2.2.2.2.2.1, p30.2.2.2.2.2.2.2.2.2.2.2.2.2.1, p30.2.2.2.2.2.2.2.2.2.2.2.2.2.2.1, p30.2.2.2.2.2.2.2.2.2.2.2.2.2.2.2.1, p30.2.2.2.2.2.2.2.2.2.2.2.2.2.2.2.2.1, p30.2.2.2.2.2.2.2.2.2.2.2.2.2.2.2.2.2.1, p30.2.2.2.2.2.2.2.2.2.2.2.2.2.2.2.2.2.2.1, p30.2.2.2.2.2.2.2.2.2.2.2.2.2.2.2.2.2.2.2.1, y.2.2.2.2.2.2.2.2.2.2.2.2.2.2.2.2.2.2.2.2.2.2.1, y.2.2.2.2.2.2.2.2.2.2.2.2.2.2.2.2.2.2.2.2.2.2.2.1, y.2.2.2.2.2.2.2.2.2.2.2.2.2.2.2.2.2.2.2.2.2.2.2.2.1, y.2.2.2.2.2.2.2.2.2.2.2.2.2.2.2.2.2.2.2.2.2.2.2.2.2.1, y.2.2.2.2.2.2.2.2.2.2.2.2.2.2.2.2.2.2.2.2.2.2.2.2.2.2.1, p30.2.2.2.2.2.2.2.2.2.2.2.2.2.2.2.2.2.2.2.2) w31 := q0
            have bk0_0 : wc_Nd cI cG cZ ad (k0) (x.1, p28.2, x.2.2.1, x.2.2.2.1, x.2.2.2.2.1, x.2.2.2.2.2) w31 := bk0_0.fr (fun j h1 h2 => frc j (by omega))
            refine lv_icmp_eq (tgt := 502) hx hb d_La_law_190 (by decide) (fun c32 => ?_) (fun c32 => ?_)
            · rw [if_pos c32] at hf
              refine lv_iinc (v := v3 + 6) (lv' := [(3, .int (v3 + 6)), (0, .ref b), (1, .ref (ad k0)), (2, .ref (ad k1))]) hx hb d_La_law_502 hl (k := 3) rfl rfl (by decide) rfl (fun ls hl => ?_)
              refine lv_goto (tgt := 18) hx hb d_La_law_505 (by decide) ?_
              exact ih (x.1, p28.2, x.2.2.1, x.2.2.2.1, x.2.2.2.2.1, x.2.2.2.2.2) (p30.2.1, p30.2.2.1, y.2.2.1, y.2.2.2.1, p30.2.2.2.1, p30.2.2.2.2.1, p30.2.2.2.2.2.1, p30.2.2.2.2.2.2.1, p30.2.2.2.2.2.2.2.1, p30.2.2.2.2.2.2.2.2.1, p30.2.2.2.2.2.2.2.2.2.1, y.2.2.2.2.2.2.2.2.2.2.2.1, p30.2.2.2.2.2.2.2.2.2.2.1, p30.2.2.2.2.2.2.2.2.2.2.2.1, p30.2.2.2.2.2.2.2.2.2.2.2.2.1, p30.2.2.2.2.2.2.2.2.2.2.2.2.2.1, p30.2.2.2.2.2.2.2.2.2.2.2.2.2.2.1, p30.2.2.2.2.2.2.2.2.2.2.2.2.2.2.2.1, p30.2.2.2.2.2.2.2.2.2.2.2.2.2.2.2.2.1, p30.2.2.2.2.2.2.2.2.2.2.2.2.2.2.2.2.2.1, p30.2.2.2.2.2.2.2.2.2.2.2.2.2.2.2.2.2.2.1, p30.2.2.2.2.2.2.2.2.2.2.2.2.2.2.2.2.2.2.2.1, y.2.2.2.2.2.2.2.2.2.2.2.2.2.2.2.2.2.2.2.2.2.2.1, y.2.2.2.2.2.2.2.2.2.2.2.2.2.2.2.2.2.2.2.2.2.2.2.1, y.2.2.2.2.2.2.2.2.2.2.2.2.2.2.2.2.2.2.2.2.2.2.2.2.1, y.2.2.2.2.2.2.2.2.2.2.2.2.2.2.2.2.2.2.2.2.2.2.2.2.2.1, y.2.2.2.2.2.2.2.2.2.2.2.2.2.2.2.2.2.2.2.2.2.2.2.2.2.2.1, p30.2.2.2.2.2.2.2.2.2.2.2.2.2.2.2.2.2.2.2.2) (v3 + 6) _ _ _ _ hP hD hS (lv_sub hl [1, 2, 3, 0] rfl) bk0_0 bk1_0 hf
            · rw [if_neg c32] at hf
              refine lv_iconst (v := 0) hx hb d_La_law_193 (by decide) ?_
              exact absurd (Option.some.inj hf) (by decide)
          · rw [if_neg c27] at hf
            by_cases c33 : (xs v3.toNatClampNeg) &&& 15 = 3
            · rw [if_pos c33] at hf
              refine lv_tableIn (tgt := 195) (off := 162) hx hb d_La_law_33 (by rw [c33]; decide) (by rw [c33]; decide) (by rw [c33]; rfl) (by decide) ?_
              refine lv_aload_n hx hb d_La_law_195 rfl (lv_at hl 1 rfl) ?_
              refine lv_aload_n hx hb d_La_law_196 rfl (lv_at hl 0 rfl) ?_
              refine lv_iload_n hx hb d_La_law_197 rfl (lv_at hl 3 rfl) ?_
              refine lv_iconst (v := 1) hx hb d_La_law_198 (by decide) ?_
              refine lv_iadd hx hb d_La_law_199 ?_
              obtain ⟨z34, hf⟩ := g_atE hf
              refine va_sld hx hb hX hbl hbA hS z34 d_La_law_200 ?_
              refine lv_aload_n hx hb d_La_law_201 rfl (lv_at hl 0 rfl) ?_
              refine lv_iload_n hx hb d_La_law_202 rfl (lv_at hl 3 rfl) ?_
              refine lv_iconst (v := 2) hx hb d_La_law_203 (by decide) ?_
              refine lv_iadd hx hb d_La_law_204 ?_
              obtain ⟨z35, hf⟩ := g_atE hf
              refine va_sld hx hb hX hbl hbA hS z35 d_La_law_205 ?_
              refine lv_aload_n hx hb d_La_law_206 rfl (lv_at hl 0 rfl) ?_
              refine lv_iload_n hx hb d_La_law_207 rfl (lv_at hl 3 rfl) ?_
              refine lv_iconst (v := 3) hx hb d_La_law_208 (by decide) ?_
              refine lv_iadd hx hb d_La_law_209 ?_
              obtain ⟨z36, hf⟩ := g_atE hf
              refine va_sld hx hb hX hbl hbA hS z36 d_La_law_210 ?_
              refine lv_aload_n hx hb d_La_law_211 rfl (lv_at hl 0 rfl) ?_
              refine lv_iload_n hx hb d_La_law_212 rfl (lv_at hl 3 rfl) ?_
              refine lv_iconst (v := 4) hx hb d_La_law_213 (by decide) ?_
              refine lv_iadd hx hb d_La_law_214 ?_
              obtain ⟨z37, hf⟩ := g_atE hf
              refine va_sld hx hb hX hbl hbA hS z37 d_La_law_215 ?_
              obtain ⟨p38, hp38, hf⟩ := g_bd hf
              refine hw_ci (va_runV (As := [.int (xs (v3 + 1).toNatClampNeg), .int (xs (v3 + 2).toNatClampNeg), .int (xs (v3 + 3).toNatClampNeg), .int (xs (v3 + 4).toNatClampNeg)]) (rest := []) ⟨hx, hb, hml, hown, hts⟩ (c_Nd_ask l D cI cG cZ ad B ws N k0 x.1 x.2.1 x.2.2.1 x.2.2.2.1 x.2.2.2.2.1 x.2.2.2.2.2 (xs (v3 + 1).toNatClampNeg) (xs (v3 + 2).toNatClampNeg) (xs (v3 + 3).toNatClampNeg) (xs (v3 + 4).toNatClampNeg) p38.1 p38.2 hp38 bk0_0) (cwV 4 hts (hw_gV iw_404 gy_Nd_ask) rfl rfl rfl (by decide +kernel) ⟨Nat.le_of_ble_eq_true rfl, Nat.le_of_ble_eq_true rfl⟩) ⟨hw_blind, va_recv hK hP (ci := 6) (q0 := k0) rfl bk0_0.1, hw_go hP hD hK hN⟩ rfl rfl hl.1 rfl (lv_room (Nat.le_of_ble_eq_true rfl)) d_La_law_216 ⟨Nat.le_of_ble_eq_true rfl, Nat.le_of_ble_eq_true rfl⟩) hS (fun w39 H locs hP hD hS hpp => ?_)
              obtain ⟨q0, frc⟩ := hpp
              have bk0_0 : wc_Nd cI cG cZ ad (k0) (x.1, x.2.1, x.2.2.1, x.2.2.2.1, p38.2, x.2.2.2.2.2) w39 := q0
              have bk1_0 : wc_Mo cI cG cZ ad (k1) y w39 := bk1_0.fr (fun j h1 h2 => frc j (by omega))
              refine lv_aload_n hx hb d_La_law_219 rfl (lv_at hl 2 rfl) ?_
              refine lv_aload_n hx hb d_La_law_220 rfl (lv_at hl 0 rfl) ?_
              refine lv_iload_n hx hb d_La_law_221 rfl (lv_at hl 3 rfl) ?_
              refine lv_iconst (v := 1) hx hb d_La_law_222 (by decide) ?_
              refine lv_iadd hx hb d_La_law_223 ?_
              obtain ⟨z40, hf⟩ := g_atE hf
              refine va_sld hx hb hX hbl hbA hS z40 d_La_law_224 ?_
              refine lv_aload_n hx hb d_La_law_225 rfl (lv_at hl 0 rfl) ?_
              refine lv_iload_n hx hb d_La_law_226 rfl (lv_at hl 3 rfl) ?_
              refine lv_iconst (v := 2) hx hb d_La_law_227 (by decide) ?_
              refine lv_iadd hx hb d_La_law_228 ?_
              obtain ⟨z41, hf⟩ := g_atE hf
              refine va_sld hx hb hX hbl hbA hS z41 d_La_law_229 ?_
              refine lv_aload_n hx hb d_La_law_230 rfl (lv_at hl 0 rfl) ?_
              refine lv_iload_n hx hb d_La_law_231 rfl (lv_at hl 3 rfl) ?_
              refine lv_iconst (v := 3) hx hb d_La_law_232 (by decide) ?_
              refine lv_iadd hx hb d_La_law_233 ?_
              obtain ⟨z42, hf⟩ := g_atE hf
              refine va_sld hx hb hX hbl hbA hS z42 d_La_law_234 ?_
              refine lv_aload_n hx hb d_La_law_235 rfl (lv_at hl 0 rfl) ?_
              refine lv_iload_n hx hb d_La_law_236 rfl (lv_at hl 3 rfl) ?_
              refine lv_iconst (v := 4) hx hb d_La_law_237 (by decide) ?_
              refine lv_iadd hx hb d_La_law_238 ?_
              obtain ⟨z43, hf⟩ := g_atE hf
              refine va_sld hx hb hX hbl hbA hS z43 d_La_law_239 ?_
              obtain ⟨p44, hp44, hf⟩ := g_bd hf
              refine hw_ci (va_runV (As := [.int (xs (v3 + 1).toNatClampNeg), .int (xs (v3 + 2).toNatClampNeg), .int (xs (v3 + 3).toNatClampNeg), .int (xs (v3 + 4).toNatClampNeg)]) (rest := [.int p38.1]) ⟨hx, hb, hml, hown, hts⟩ (c_Mo_ask l D cI cG cZ ad B w39 N k1 y.1 y.2.1 y.2.2.1 y.2.2.2.1 y.2.2.2.2.1 y.2.2.2.2.2.1 y.2.2.2.2.2.2.1 y.2.2.2.2.2.2.2.1 y.2.2.2.2.2.2.2.2.1 y.2.2.2.2.2.2.2.2.2.1 y.2.2.2.2.2.2.2.2.2.2.1 y.2.2.2.2.2.2.2.2.2.2.2.1 y.2.2.2.2.2.2.2.2.2.2.2.2.1 y.2.2.2.2.2.2.2.2.2.2.2.2.2.1 y.2.2.2.2.2.2.2.2.2.2.2.2.2.2.1 y.2.2.2.2.2.2.2.2.2.2.2.2.2.2.2.1 y.2.2.2.2.2.2.2.2.2.2.2.2.2.2.2.2.1 y.2.2.2.2.2.2.2.2.2.2.2.2.2.2.2.2.2.1 y.2.2.2.2.2.2.2.2.2.2.2.2.2.2.2.2.2.2.1 y.2.2.2.2.2.2.2.2.2.2.2.2.2.2.2.2.2.2.2.1 y.2.2.2.2.2.2.2.2.2.2.2.2.2.2.2.2.2.2.2.2.1 y.2.2.2.2.2.2.2.2.2.2.2.2.2.2.2.2.2.2.2.2.2.1 y.2.2.2.2.2.2.2.2.2.2.2.2.2.2.2.2.2.2.2.2.2.2.1 y.2.2.2.2.2.2.2.2.2.2.2.2.2.2.2.2.2.2.2.2.2.2.2.1 y.2.2.2.2.2.2.2.2.2.2.2.2.2.2.2.2.2.2.2.2.2.2.2.2.1 y.2.2.2.2.2.2.2.2.2.2.2.2.2.2.2.2.2.2.2.2.2.2.2.2.2.1 y.2.2.2.2.2.2.2.2.2.2.2.2.2.2.2.2.2.2.2.2.2.2.2.2.2.2.1 y.2.2.2.2.2.2.2.2.2.2.2.2.2.2.2.2.2.2.2.2.2.2.2.2.2.2.2 (xs (v3 + 1).toNatClampNeg) (xs (v3 + 2).toNatClampNeg) (xs (v3 + 3).toNatClampNeg) (xs (v3 + 4).toNatClampNeg) p44.1 p44.2 hp44 bk1_0) (cwV 4 hts (hw_gV iw_726 gy_Mo_ask) rfl rfl rfl (by decide +kernel) ⟨Nat.le_of_ble_eq_true rfl, Nat.le_of_ble_eq_true rfl⟩) ⟨hw_blind, va_recv hK hP (ci := 7) (q0 := k1) rfl bk1_0.1, hw_go hP hD hK hN⟩ rfl rfl hl.1 rfl (lv_room (Nat.le_of_ble_eq_true rfl)) d_La_law_240 ⟨Nat.le_of_ble_eq_true rfl, Nat.le_of_ble_eq_true rfl⟩) hS (fun w45 H locs hP hD hS hpp => ?_)
              obtain ⟨q0, frc⟩ := hpp
              have bk1_0 : wc_Mo cI cG cZ ad (k1) (y.1, y.2.1, y.2.2.1, y.2.2.2.1, y.2.2.2.2.1, y.2.2.2.2.2.1, y.2.2.2.2.2.2.1, y.2.2.2.2.2.2.2.1, y.2.2.2.2.2.2.2.2.1, y.2.2.2.2.2.2.2.2.2.1, y.2.2.2.2.2.2.2.2.2.2.1, p44.2, y.2.2.2.2.2.2.2.2.2.2.2.2.1, y.2.2.2.2.2.2.2.2.2.2.2.2.2.1, y.2.2.2.2.2.2.2.2.2.2.2.2.2.2.1, y.2.2.2.2.2.2.2.2.2.2.2.2.2.2.2.1, y.2.2.2.2.2.2.2.2.2.2.2.2.2.2.2.2.1, y.2.2.2.2.2.2.2.2.2.2.2.2.2.2.2.2.2.1, y.2.2.2.2.2.2.2.2.2.2.2.2.2.2.2.2.2.2.1, y.2.2.2.2.2.2.2.2.2.2.2.2.2.2.2.2.2.2.2.1, y.2.2.2.2.2.2.2.2.2.2.2.2.2.2.2.2.2.2.2.2.1, y.2.2.2.2.2.2.2.2.2.2.2.2.2.2.2.2.2.2.2.2.2.1, y.2.2.2.2.2.2.2.2.2.2.2.2.2.2.2.2.2.2.2.2.2.2.1, y.2.2.2.2.2.2.2.2.2.2.2.2.2.2.2.2.2.2.2.2.2.2.2.1, y.2.2.2.2.2.2.2.2.2.2.2.2.2.2.2.2.2.2.2.2.2.2.2.2.1, y.2.2.2.2.2.2.2.2.2.2.2.2.2.2.2.2.2.2.2.2.2.2.2.2.2.1, y.2.2.2.2.2.2.2.2.2.2.2.2.2.2.2.2.2.2.2.2.2.2.2.2.2.2.1, y.2.2.2.2.2.2.2.2.2.2.2.2.2.2.2.2.2.2.2.2.2.2.2.2.2.2.2) w45 := q0
              have bk0_0 : wc_Nd cI cG cZ ad (k0) (x.1, x.2.1, x.2.2.1, x.2.2.2.1, p38.2, x.2.2.2.2.2) w45 := bk0_0.fr (fun j h1 h2 => frc j (by omega))
              refine lv_icmp_eq (tgt := 502) hx hb d_La_law_243 (by decide) (fun c46 => ?_) (fun c46 => ?_)
              · rw [if_pos c46] at hf
                refine lv_iinc (v := v3 + 6) (lv' := [(3, .int (v3 + 6)), (0, .ref b), (1, .ref (ad k0)), (2, .ref (ad k1))]) hx hb d_La_law_502 hl (k := 3) rfl rfl (by decide) rfl (fun ls hl => ?_)
                refine lv_goto (tgt := 18) hx hb d_La_law_505 (by decide) ?_
                exact ih (x.1, x.2.1, x.2.2.1, x.2.2.2.1, p38.2, x.2.2.2.2.2) (y.1, y.2.1, y.2.2.1, y.2.2.2.1, y.2.2.2.2.1, y.2.2.2.2.2.1, y.2.2.2.2.2.2.1, y.2.2.2.2.2.2.2.1, y.2.2.2.2.2.2.2.2.1, y.2.2.2.2.2.2.2.2.2.1, y.2.2.2.2.2.2.2.2.2.2.1, p44.2, y.2.2.2.2.2.2.2.2.2.2.2.2.1, y.2.2.2.2.2.2.2.2.2.2.2.2.2.1, y.2.2.2.2.2.2.2.2.2.2.2.2.2.2.1, y.2.2.2.2.2.2.2.2.2.2.2.2.2.2.2.1, y.2.2.2.2.2.2.2.2.2.2.2.2.2.2.2.2.1, y.2.2.2.2.2.2.2.2.2.2.2.2.2.2.2.2.2.1, y.2.2.2.2.2.2.2.2.2.2.2.2.2.2.2.2.2.2.1, y.2.2.2.2.2.2.2.2.2.2.2.2.2.2.2.2.2.2.2.1, y.2.2.2.2.2.2.2.2.2.2.2.2.2.2.2.2.2.2.2.2.1, y.2.2.2.2.2.2.2.2.2.2.2.2.2.2.2.2.2.2.2.2.2.1, y.2.2.2.2.2.2.2.2.2.2.2.2.2.2.2.2.2.2.2.2.2.2.1, y.2.2.2.2.2.2.2.2.2.2.2.2.2.2.2.2.2.2.2.2.2.2.2.1, y.2.2.2.2.2.2.2.2.2.2.2.2.2.2.2.2.2.2.2.2.2.2.2.2.1, y.2.2.2.2.2.2.2.2.2.2.2.2.2.2.2.2.2.2.2.2.2.2.2.2.2.1, y.2.2.2.2.2.2.2.2.2.2.2.2.2.2.2.2.2.2.2.2.2.2.2.2.2.2.1, y.2.2.2.2.2.2.2.2.2.2.2.2.2.2.2.2.2.2.2.2.2.2.2.2.2.2.2) (v3 + 6) _ _ _ _ hP hD hS (lv_sub hl [1, 2, 3, 0] rfl) bk0_0 bk1_0 hf
              · rw [if_neg c46] at hf
                refine lv_iconst (v := 0) hx hb d_La_law_246 (by decide) ?_
                exact absurd (Option.some.inj hf) (by decide)
            · rw [if_neg c33] at hf
              by_cases c47 : (xs v3.toNatClampNeg) &&& 15 = 4
              · rw [if_pos c47] at hf
                refine lv_tableIn (tgt := 248) (off := 215) hx hb d_La_law_33 (by rw [c47]; decide) (by rw [c47]; decide) (by rw [c47]; rfl) (by decide) ?_
                refine lv_aload_n hx hb d_La_law_248 rfl (lv_at hl 1 rfl) ?_
                refine lv_aload_n hx hb d_La_law_249 rfl (lv_at hl 0 rfl) ?_
                refine lv_iload_n hx hb d_La_law_250 rfl (lv_at hl 3 rfl) ?_
                refine lv_iconst (v := 1) hx hb d_La_law_251 (by decide) ?_
                refine lv_iadd hx hb d_La_law_252 ?_
                obtain ⟨z48, hf⟩ := g_atE hf
                refine va_sld hx hb hX hbl hbA hS z48 d_La_law_253 ?_
                refine lv_aload_n hx hb d_La_law_254 rfl (lv_at hl 0 rfl) ?_
                refine lv_iload_n hx hb d_La_law_255 rfl (lv_at hl 3 rfl) ?_
                refine lv_iconst (v := 2) hx hb d_La_law_256 (by decide) ?_
                refine lv_iadd hx hb d_La_law_257 ?_
                obtain ⟨z49, hf⟩ := g_atE hf
                refine va_sld hx hb hX hbl hbA hS z49 d_La_law_258 ?_
                obtain ⟨p50, hp50, hf⟩ := g_bd hf
                refine hw_ci (va_runV (As := [.int (xs (v3 + 1).toNatClampNeg), .int (xs (v3 + 2).toNatClampNeg)]) (rest := []) ⟨hx, hb, hml, hown, hts⟩ (c_Nd_near l D cI cG cZ ad B ws N k0 x.1 x.2.1 x.2.2.1 x.2.2.2.1 x.2.2.2.2.1 x.2.2.2.2.2 (xs (v3 + 1).toNatClampNeg) (xs (v3 + 2).toNatClampNeg) p50.1 p50.2.1 p50.2.2 hp50 bk0_0) (cwV 2 hts (hw_gV iw_409 gy_Nd_near) rfl rfl rfl (by decide +kernel) ⟨Nat.le_of_ble_eq_true rfl, Nat.le_of_ble_eq_true rfl⟩) ⟨hw_blind, va_recv hK hP (ci := 6) (q0 := k0) rfl bk0_0.1, hw_go hP hD hK hN⟩ rfl rfl hl.1 rfl (lv_room (Nat.le_of_ble_eq_true rfl)) d_La_law_259 ⟨Nat.le_of_ble_eq_true rfl, Nat.le_of_ble_eq_true rfl⟩) hS (fun w51 H locs hP hD hS hpp => ?_)
                obtain ⟨q0, frc⟩ := hpp
                have bk0_0 : wc_Nd cI cG cZ ad (k0) (x.1, p50.2.1, p50.2.2, x.2.2.2.1, x.2.2.2.2.1, x.2.2.2.2.2) w51 := q0
                have bk1_0 : wc_Mo cI cG cZ ad (k1) y w51 := bk1_0.fr (fun j h1 h2 => frc j (by omega))
                refine lv_aload_n hx hb d_La_law_262 rfl (lv_at hl 2 rfl) ?_
                refine lv_aload_n hx hb d_La_law_263 rfl (lv_at hl 0 rfl) ?_
                refine lv_iload_n hx hb d_La_law_264 rfl (lv_at hl 3 rfl) ?_
                refine lv_iconst (v := 1) hx hb d_La_law_265 (by decide) ?_
                refine lv_iadd hx hb d_La_law_266 ?_
                obtain ⟨z52, hf⟩ := g_atE hf
                refine va_sld hx hb hX hbl hbA hS z52 d_La_law_267 ?_
                refine lv_aload_n hx hb d_La_law_268 rfl (lv_at hl 0 rfl) ?_
                refine lv_iload_n hx hb d_La_law_269 rfl (lv_at hl 3 rfl) ?_
                refine lv_iconst (v := 2) hx hb d_La_law_270 (by decide) ?_
                refine lv_iadd hx hb d_La_law_271 ?_
                obtain ⟨z53, hf⟩ := g_atE hf
                refine va_sld hx hb hX hbl hbA hS z53 d_La_law_272 ?_
                obtain ⟨p54, hp54, hf⟩ := g_bd hf
                refine hw_ci (va_runV (As := [.int (xs (v3 + 1).toNatClampNeg), .int (xs (v3 + 2).toNatClampNeg)]) (rest := [.int p50.1]) ⟨hx, hb, hml, hown, hts⟩ (c_Mo_near l D cI cG cZ ad B w51 N k1 y.1 y.2.1 y.2.2.1 y.2.2.2.1 y.2.2.2.2.1 y.2.2.2.2.2.1 y.2.2.2.2.2.2.1 y.2.2.2.2.2.2.2.1 y.2.2.2.2.2.2.2.2.1 y.2.2.2.2.2.2.2.2.2.1 y.2.2.2.2.2.2.2.2.2.2.1 y.2.2.2.2.2.2.2.2.2.2.2.1 y.2.2.2.2.2.2.2.2.2.2.2.2.1 y.2.2.2.2.2.2.2.2.2.2.2.2.2.1 y.2.2.2.2.2.2.2.2.2.2.2.2.2.2.1 y.2.2.2.2.2.2.2.2.2.2.2.2.2.2.2.1 y.2.2.2.2.2.2.2.2.2.2.2.2.2.2.2.2.1 y.2.2.2.2.2.2.2.2.2.2.2.2.2.2.2.2.2.1 y.2.2.2.2.2.2.2.2.2.2.2.2.2.2.2.2.2.2.1 y.2.2.2.2.2.2.2.2.2.2.2.2.2.2.2.2.2.2.2.1 y.2.2.2.2.2.2.2.2.2.2.2.2.2.2.2.2.2.2.2.2.1 y.2.2.2.2.2.2.2.2.2.2.2.2.2.2.2.2.2.2.2.2.2.1 y.2.2.2.2.2.2.2.2.2.2.2.2.2.2.2.2.2.2.2.2.2.2.1 y.2.2.2.2.2.2.2.2.2.2.2.2.2.2.2.2.2.2.2.2.2.2.2.1 y.2.2.2.2.2.2.2.2.2.2.2.2.2.2.2.2.2.2.2.2.2.2.2.2.1 y.2.2.2.2.2.2.2.2.2.2.2.2.2.2.2.2.2.2.2.2.2.2.2.2.2.1 y.2.2.2.2.2.2.2.2.2.2.2.2.2.2.2.2.2.2.2.2.2.2.2.2.2.2.1 y.2.2.2.2.2.2.2.2.2.2.2.2.2.2.2.2.2.2.2.2.2.2.2.2.2.2.2 (xs (v3 + 1).toNatClampNeg) (xs (v3 + 2).toNatClampNeg) p54.1 p54.2.1 p54.2.2.1 p54.2.2.2.1 p54.2.2.2.2.1 p54.2.2.2.2.2.1 p54.2.2.2.2.2.2.1 p54.2.2.2.2.2.2.2.1 p54.2.2.2.2.2.2.2.2.1 p54.2.2.2.2.2.2.2.2.2.1 p54.2.2.2.2.2.2.2.2.2.2 hp54 bk1_0) (cwV 2 hts (hw_gV iw_730 gy_Mo_near) rfl rfl rfl (by decide +kernel) ⟨Nat.le_of_ble_eq_true rfl, Nat.le_of_ble_eq_true rfl⟩) ⟨hw_blind, va_recv hK hP (ci := 7) (q0 := k1) rfl bk1_0.1, hw_go hP hD hK hN⟩ rfl rfl hl.1 rfl (lv_room (Nat.le_of_ble_eq_true rfl)) d_La_law_273 ⟨Nat.le_of_ble_eq_true rfl, Nat.le_of_ble_eq_true rfl⟩) hS (fun w55 H locs hP hD hS hpp => ?_)
                obtain ⟨q0, frc⟩ := hpp
                have bk1_0 : wc_Mo cI cG cZ ad (k1) (y.1, y.2.1, y.2.2.1, y.2.2.2.1, y.2.2.2.2.1, y.2.2.2.2.2.1, y.2.2.2.2.2.2.1, y.2.2.2.2.2.2.2.1, y.2.2.2.2.2.2.2.2.1, y.2.2.2.2.2.2.2.2.2.1, p54.2.1, y.2.2.2.2.2.2.2.2.2.2.2.1, p54.2.2.1, p54.2.2.2.1, p54.2.2.2.2.1, y.2.2.2.2.2.2.2.2.2.2.2.2.2.2.2.1, p54.2.2.2.2.2.1, y.2.2.2.2.2.2.2.2.2.2.2.2.2.2.2.2.2.1, y.2.2.2.2.2.2.2.2.2.2.2.2.2.2.2.2.2.2.1, p54.2.2.2.2.2.2.1, y.2.2.2.2.2.2.2.2.2.2.2.2.2.2.2.2.2.2.2.2.1, y.2.2.2.2.2.2.2.2.2.2.2.2.2.2.2.2.2.2.2.2.2.1, p54.2.2.2.2.2.2.2.1, p54.2.2.2.2.2.2.2.2.1, y.2.2.2.2.2.2.2.2.2.2.2.2.2.2.2.2.2.2.2.2.2.2.2.2.1, p54.2.2.2.2.2.2.2.2.2.1, p54.2.2.2.2.2.2.2.2.2.2, y.2.2.2.2.2.2.2.2.2.2.2.2.2.2.2.2.2.2.2.2.2.2.2.2.2.2.2) w55 := q0
                have bk0_0 : wc_Nd cI cG cZ ad (k0) (x.1, p50.2.1, p50.2.2, x.2.2.2.1, x.2.2.2.2.1, x.2.2.2.2.2) w55 := bk0_0.fr (fun j h1 h2 => frc j (by omega))
                refine lv_icmp_eq (tgt := 502) hx hb d_La_law_276 (by decide) (fun c56 => ?_) (fun c56 => ?_)
                · rw [if_pos c56] at hf
                  refine lv_iinc (v := v3 + 6) (lv' := [(3, .int (v3 + 6)), (0, .ref b), (1, .ref (ad k0)), (2, .ref (ad k1))]) hx hb d_La_law_502 hl (k := 3) rfl rfl (by decide) rfl (fun ls hl => ?_)
                  refine lv_goto (tgt := 18) hx hb d_La_law_505 (by decide) ?_
                  exact ih (x.1, p50.2.1, p50.2.2, x.2.2.2.1, x.2.2.2.2.1, x.2.2.2.2.2) (y.1, y.2.1, y.2.2.1, y.2.2.2.1, y.2.2.2.2.1, y.2.2.2.2.2.1, y.2.2.2.2.2.2.1, y.2.2.2.2.2.2.2.1, y.2.2.2.2.2.2.2.2.1, y.2.2.2.2.2.2.2.2.2.1, p54.2.1, y.2.2.2.2.2.2.2.2.2.2.2.1, p54.2.2.1, p54.2.2.2.1, p54.2.2.2.2.1, y.2.2.2.2.2.2.2.2.2.2.2.2.2.2.2.1, p54.2.2.2.2.2.1, y.2.2.2.2.2.2.2.2.2.2.2.2.2.2.2.2.2.1, y.2.2.2.2.2.2.2.2.2.2.2.2.2.2.2.2.2.2.1, p54.2.2.2.2.2.2.1, y.2.2.2.2.2.2.2.2.2.2.2.2.2.2.2.2.2.2.2.2.1, y.2.2.2.2.2.2.2.2.2.2.2.2.2.2.2.2.2.2.2.2.2.1, p54.2.2.2.2.2.2.2.1, p54.2.2.2.2.2.2.2.2.1, y.2.2.2.2.2.2.2.2.2.2.2.2.2.2.2.2.2.2.2.2.2.2.2.2.1, p54.2.2.2.2.2.2.2.2.2.1, p54.2.2.2.2.2.2.2.2.2.2, y.2.2.2.2.2.2.2.2.2.2.2.2.2.2.2.2.2.2.2.2.2.2.2.2.2.2.2) (v3 + 6) _ _ _ _ hP hD hS (lv_sub hl [1, 2, 3, 0] rfl) bk0_0 bk1_0 hf
                · rw [if_neg c56] at hf
                  refine lv_iconst (v := 0) hx hb d_La_law_279 (by decide) ?_
                  exact absurd (Option.some.inj hf) (by decide)
              · rw [if_neg c47] at hf
                by_cases c57 : (xs v3.toNatClampNeg) &&& 15 = 5
                · rw [if_pos c57] at hf
                  refine lv_tableIn (tgt := 281) (off := 248) hx hb d_La_law_33 (by rw [c57]; decide) (by rw [c57]; decide) (by rw [c57]; rfl) (by decide) ?_
                  refine lv_aload_n hx hb d_La_law_281 rfl (lv_at hl 1 rfl) ?_
                  refine lv_aload_n hx hb d_La_law_282 rfl (lv_at hl 0 rfl) ?_
                  refine lv_iload_n hx hb d_La_law_283 rfl (lv_at hl 3 rfl) ?_
                  refine lv_iconst (v := 1) hx hb d_La_law_284 (by decide) ?_
                  refine lv_iadd hx hb d_La_law_285 ?_
                  obtain ⟨z58, hf⟩ := g_atE hf
                  refine va_sld hx hb hX hbl hbA hS z58 d_La_law_286 ?_
                  obtain ⟨p59, hp59, hf⟩ := g_bd hf
                  refine hw_ci (va_runV (As := [.int (xs (v3 + 1).toNatClampNeg)]) (rest := []) ⟨hx, hb, hml, hown, hts⟩ (c_Nd_exact l D cI cG cZ ad B ws N k0 x.1 x.2.1 x.2.2.1 x.2.2.2.1 x.2.2.2.2.1 x.2.2.2.2.2 (xs (v3 + 1).toNatClampNeg) p59.1 p59.2 hp59 bk0_0) (cwV 1 hts (hw_gV iw_431 gy_Nd_exact) rfl rfl rfl (by decide +kernel) ⟨Nat.le_of_ble_eq_true rfl, Nat.le_of_ble_eq_true rfl⟩) ⟨hw_blind, va_recv hK hP (ci := 6) (q0 := k0) rfl bk0_0.1, hw_go hP hD hK hN⟩ rfl rfl hl.1 rfl (lv_room (Nat.le_of_ble_eq_true rfl)) d_La_law_287 ⟨Nat.le_of_ble_eq_true rfl, Nat.le_of_ble_eq_true rfl⟩) hS (fun w60 H locs hP hD hS hpp => ?_)
                  obtain ⟨q0, frc⟩ := hpp
                  have bk0_0 : wc_Nd cI cG cZ ad (k0) (x.1, x.2.1, p59.2, x.2.2.2.1, x.2.2.2.2.1, x.2.2.2.2.2) w60 := q0
                  have bk1_0 : wc_Mo cI cG cZ ad (k1) y w60 := bk1_0.fr (fun j h1 h2 => frc j (by omega))
                  refine lv_aload_n hx hb d_La_law_290 rfl (lv_at hl 2 rfl) ?_
                  refine lv_aload_n hx hb d_La_law_291 rfl (lv_at hl 0 rfl) ?_
                  refine lv_iload_n hx hb d_La_law_292 rfl (lv_at hl 3 rfl) ?_
                  refine lv_iconst (v := 1) hx hb d_La_law_293 (by decide) ?_
                  refine lv_iadd hx hb d_La_law_294 ?_
                  obtain ⟨z61, hf⟩ := g_atE hf
                  refine va_sld hx hb hX hbl hbA hS z61 d_La_law_295 ?_
                  obtain ⟨p62, hp62, hf⟩ := g_bd hf
                  refine hw_ci (va_runV (As := [.int (xs (v3 + 1).toNatClampNeg)]) (rest := [.int p59.1]) ⟨hx, hb, hml, hown, hts⟩ (c_Mo_exact l D cI cG cZ ad B w60 N k1 y.1 y.2.1 y.2.2.1 y.2.2.2.1 y.2.2.2.2.1 y.2.2.2.2.2.1 y.2.2.2.2.2.2.1 y.2.2.2.2.2.2.2.1 y.2.2.2.2.2.2.2.2.1 y.2.2.2.2.2.2.2.2.2.1 y.2.2.2.2.2.2.2.2.2.2.1 y.2.2.2.2.2.2.2.2.2.2.2.1 y.2.2.2.2.2.2.2.2.2.2.2.2.1 y.2.2.2.2.2.2.2.2.2.2.2.2.2.1 y.2.2.2.2.2.2.2.2.2.2.2.2.2.2.1 y.2.2.2.2.2.2.2.2.2.2.2.2.2.2.2.1 y.2.2.2.2.2.2.2.2.2.2.2.2.2.2.2.2.1 y.2.2.2.2.2.2.2.2.2.2.2.2.2.2.2.2.2.1 y.2.2.2.2.2.2.2.2.2.2.2.2.2.2.2.2.2.2.1 y.2.2.2.2.2.2.2.2.2.2.2.2.2.2.2.2.2.2.2.1 y.2.2.2.2.2.2.2.2.2.2.2.2.2.2.2.2.2.2.2.2.1 y.2.2.2.2.2.2.2.2.2.2.2.2.2.2.2.2.2.2.2.2.2.1 y.2.2.2.2.2.2.2.2.2.2.2.2.2.2.2.2.2.2.2.2.2.2.1 y.2.2.2.2.2.2.2.2.2.2.2.2.2.2.2.2.2.2.2.2.2.2.2.1 y.2.2.2.2.2.2.2.2.2.2.2.2.2.2.2.2.2.2.2.2.2.2.2.2.1 y.2.2.2.2.2.2.2.2.2.2.2.2.2.2.2.2.2.2.2.2.2.2.2.2.2.1 y.2.2.2.2.2.2.2.2.2.2.2.2.2.2.2.2.2.2.2.2.2.2.2.2.2.2.1 y.2.2.2.2.2.2.2.2.2.2.2.2.2.2.2.2.2.2.2.2.2.2.2.2.2.2.2 (xs (v3 + 1).toNatClampNeg) p62.1 p62.2.1 p62.2.2.1 p62.2.2.2.1 p62.2.2.2.2.1 p62.2.2.2.2.2 hp62 bk1_0) (cwV 1 hts (hw_gV iw_742 gy_Mo_exact) rfl rfl rfl (by decide +kernel) ⟨Nat.le_of_ble_eq_true rfl, Nat.le_of_ble_eq_true rfl⟩) ⟨hw_blind, va_recv hK hP (ci := 7) (q0 := k1) rfl bk1_0.1, hw_go hP hD hK hN⟩ rfl rfl hl.1 rfl (lv_room (Nat.le_of_ble_eq_true rfl)) d_La_law_296 ⟨Nat.le_of_ble_eq_true rfl, Nat.le_of_ble_eq_true rfl⟩) hS (fun w63 H locs hP hD hS hpp => ?_)
                  obtain ⟨q0, frc⟩ := hpp
                  have bk1_0 : wc_Mo cI cG cZ ad (k1) (y.1, y.2.1, y.2.2.1, y.2.2.2.1, y.2.2.2.2.1, y.2.2.2.2.2.1, y.2.2.2.2.2.2.1, y.2.2.2.2.2.2.2.1, y.2.2.2.2.2.2.2.2.1, y.2.2.2.2.2.2.2.2.2.1, p62.2.1, y.2.2.2.2.2.2.2.2.2.2.2.1, y.2.2.2.2.2.2.2.2.2.2.2.2.1, p62.2.2.1, y.2.2.2.2.2.2.2.2.2.2.2.2.2.2.1, y.2.2.2.2.2.2.2.2.2.2.2.2.2.2.2.1, y.2.2.2.2.2.2.2.2.2.2.2.2.2.2.2.2.1, y.2.2.2.2.2.2.2.2.2.2.2.2.2.2.2.2.2.1, y.2.2.2.2.2.2.2.2.2.2.2.2.2.2.2.2.2.2.1, y.2.2.2.2.2.2.2.2.2.2.2.2.2.2.2.2.2.2.2.1, y.2.2.2.2.2.2.2.2.2.2.2.2.2.2.2.2.2.2.2.2.1, y.2.2.2.2.2.2.2.2.2.2.2.2.2.2.2.2.2.2.2.2.2.1, p62.2.2.2.1, p62.2.2.2.2.1, y.2.2.2.2.2.2.2.2.2.2.2.2.2.2.2.2.2.2.2.2.2.2.2.2.1, p62.2.2.2.2.2, y.2.2.2.2.2.2.2.2.2.2.2.2.2.2.2.2.2.2.2.2.2.2.2.2.2.2.1, y.2.2.2.2.2.2.2.2.2.2.2.2.2.2.2.2.2.2.2.2.2.2.2.2.2.2.2) w63 := q0
                  have bk0_0 : wc_Nd cI cG cZ ad (k0) (x.1, x.2.1, p59.2, x.2.2.2.1, x.2.2.2.2.1, x.2.2.2.2.2) w63 := bk0_0.fr (fun j h1 h2 => frc j (by omega))
                  refine lv_icmp_eq (tgt := 502) hx hb d_La_law_299 (by decide) (fun c64 => ?_) (fun c64 => ?_)
                  · rw [if_pos c64] at hf
                    refine lv_iinc (v := v3 + 6) (lv' := [(3, .int (v3 + 6)), (0, .ref b), (1, .ref (ad k0)), (2, .ref (ad k1))]) hx hb d_La_law_502 hl (k := 3) rfl rfl (by decide) rfl (fun ls hl => ?_)
                    refine lv_goto (tgt := 18) hx hb d_La_law_505 (by decide) ?_
                    exact ih (x.1, x.2.1, p59.2, x.2.2.2.1, x.2.2.2.2.1, x.2.2.2.2.2) (y.1, y.2.1, y.2.2.1, y.2.2.2.1, y.2.2.2.2.1, y.2.2.2.2.2.1, y.2.2.2.2.2.2.1, y.2.2.2.2.2.2.2.1, y.2.2.2.2.2.2.2.2.1, y.2.2.2.2.2.2.2.2.2.1, p62.2.1, y.2.2.2.2.2.2.2.2.2.2.2.1, y.2.2.2.2.2.2.2.2.2.2.2.2.1, p62.2.2.1, y.2.2.2.2.2.2.2.2.2.2.2.2.2.2.1, y.2.2.2.2.2.2.2.2.2.2.2.2.2.2.2.1, y.2.2.2.2.2.2.2.2.2.2.2.2.2.2.2.2.1, y.2.2.2.2.2.2.2.2.2.2.2.2.2.2.2.2.2.1, y.2.2.2.2.2.2.2.2.2.2.2.2.2.2.2.2.2.2.1, y.2.2.2.2.2.2.2.2.2.2.2.2.2.2.2.2.2.2.2.1, y.2.2.2.2.2.2.2.2.2.2.2.2.2.2.2.2.2.2.2.2.1, y.2.2.2.2.2.2.2.2.2.2.2.2.2.2.2.2.2.2.2.2.2.1, p62.2.2.2.1, p62.2.2.2.2.1, y.2.2.2.2.2.2.2.2.2.2.2.2.2.2.2.2.2.2.2.2.2.2.2.2.1, p62.2.2.2.2.2, y.2.2.2.2.2.2.2.2.2.2.2.2.2.2.2.2.2.2.2.2.2.2.2.2.2.2.1, y.2.2.2.2.2.2.2.2.2.2.2.2.2.2.2.2.2.2.2.2.2.2.2.2.2.2.2) (v3 + 6) _ _ _ _ hP hD hS (lv_sub hl [1, 2, 3, 0] rfl) bk0_0 bk1_0 hf
                  · rw [if_neg c64] at hf
                    refine lv_iconst (v := 0) hx hb d_La_law_302 (by decide) ?_
                    exact absurd (Option.some.inj hf) (by decide)
                · rw [if_neg c57] at hf
                  by_cases c65 : (xs v3.toNatClampNeg) &&& 15 = 6
                  · rw [if_pos c65] at hf
                    refine lv_tableIn (tgt := 304) (off := 271) hx hb d_La_law_33 (by rw [c65]; decide) (by rw [c65]; decide) (by rw [c65]; rfl) (by decide) ?_
                    refine lv_aload_n hx hb d_La_law_304 rfl (lv_at hl 1 rfl) ?_
                    refine lv_aload_n hx hb d_La_law_305 rfl (lv_at hl 0 rfl) ?_
                    refine lv_iload_n hx hb d_La_law_306 rfl (lv_at hl 3 rfl) ?_
                    refine lv_iconst (v := 1) hx hb d_La_law_307 (by decide) ?_
                    refine lv_iadd hx hb d_La_law_308 ?_
                    obtain ⟨z66, hf⟩ := g_atE hf
                    refine va_sld hx hb hX hbl hbA hS z66 d_La_law_309 ?_
                    refine lv_aload_n hx hb d_La_law_310 rfl (lv_at hl 0 rfl) ?_
                    refine lv_iload_n hx hb d_La_law_311 rfl (lv_at hl 3 rfl) ?_
                    refine lv_iconst (v := 2) hx hb d_La_law_312 (by decide) ?_
                    refine lv_iadd hx hb d_La_law_313 ?_
                    obtain ⟨z67, hf⟩ := g_atE hf
                    refine va_sld hx hb hX hbl hbA hS z67 d_La_law_314 ?_
                    obtain ⟨p68, hp68, hf⟩ := g_bd hf
                    refine hw_ci (va_runV (As := [.int (xs (v3 + 1).toNatClampNeg), .int (xs (v3 + 2).toNatClampNeg)]) (rest := []) ⟨hx, hb, hml, hown, hts⟩ (c_Nd_match l D cI cG cZ ad B ws N k0 x.1 x.2.1 x.2.2.1 x.2.2.2.1 x.2.2.2.2.1 x.2.2.2.2.2 (xs (v3 + 1).toNatClampNeg) (xs (v3 + 2).toNatClampNeg) p68.1 p68.2.1 p68.2.2 hp68 bk0_0) (cwV 2 hts (hw_gV iw_440 gy_Nd_match) rfl rfl rfl (by decide +kernel) ⟨Nat.le_of_ble_eq_true rfl, Nat.le_of_ble_eq_true rfl⟩) ⟨hw_blind, va_recv hK hP (ci := 6) (q0 := k0) rfl bk0_0.1, hw_go hP hD hK hN⟩ rfl rfl hl.1 rfl (lv_room (Nat.le_of_ble_eq_true rfl)) d_La_law_315 ⟨Nat.le_of_ble_eq_true rfl, Nat.le_of_ble_eq_true rfl⟩) hS (fun w69 H locs hP hD hS hpp => ?_)
                    obtain ⟨q0, frc⟩ := hpp
                    have bk0_0 : wc_Nd cI cG cZ ad (k0) (p68.2.1, x.2.1, p68.2.2, x.2.2.2.1, x.2.2.2.2.1, x.2.2.2.2.2) w69 := q0
                    have bk1_0 : wc_Mo cI cG cZ ad (k1) y w69 := bk1_0.fr (fun j h1 h2 => frc j (by omega))
                    refine lv_aload_n hx hb d_La_law_318 rfl (lv_at hl 2 rfl) ?_
                    refine lv_aload_n hx hb d_La_law_319 rfl (lv_at hl 0 rfl) ?_
                    refine lv_iload_n hx hb d_La_law_320 rfl (lv_at hl 3 rfl) ?_
                    refine lv_iconst (v := 1) hx hb d_La_law_321 (by decide) ?_
                    refine lv_iadd hx hb d_La_law_322 ?_
                    obtain ⟨z70, hf⟩ := g_atE hf
                    refine va_sld hx hb hX hbl hbA hS z70 d_La_law_323 ?_
                    refine lv_aload_n hx hb d_La_law_324 rfl (lv_at hl 0 rfl) ?_
                    refine lv_iload_n hx hb d_La_law_325 rfl (lv_at hl 3 rfl) ?_
                    refine lv_iconst (v := 2) hx hb d_La_law_326 (by decide) ?_
                    refine lv_iadd hx hb d_La_law_327 ?_
                    obtain ⟨z71, hf⟩ := g_atE hf
                    refine va_sld hx hb hX hbl hbA hS z71 d_La_law_328 ?_
                    obtain ⟨p72, hp72, hf⟩ := g_bd hf
                    refine hw_ci (va_runV (As := [.int (xs (v3 + 1).toNatClampNeg), .int (xs (v3 + 2).toNatClampNeg)]) (rest := [.int p68.1]) ⟨hx, hb, hml, hown, hts⟩ (c_Mo_match l D cI cG cZ ad B w69 N k1 y.1 y.2.1 y.2.2.1 y.2.2.2.1 y.2.2.2.2.1 y.2.2.2.2.2.1 y.2.2.2.2.2.2.1 y.2.2.2.2.2.2.2.1 y.2.2.2.2.2.2.2.2.1 y.2.2.2.2.2.2.2.2.2.1 y.2.2.2.2.2.2.2.2.2.2.1 y.2.2.2.2.2.2.2.2.2.2.2.1 y.2.2.2.2.2.2.2.2.2.2.2.2.1 y.2.2.2.2.2.2.2.2.2.2.2.2.2.1 y.2.2.2.2.2.2.2.2.2.2.2.2.2.2.1 y.2.2.2.2.2.2.2.2.2.2.2.2.2.2.2.1 y.2.2.2.2.2.2.2.2.2.2.2.2.2.2.2.2.1 y.2.2.2.2.2.2.2.2.2.2.2.2.2.2.2.2.2.1 y.2.2.2.2.2.2.2.2.2.2.2.2.2.2.2.2.2.2.1 y.2.2.2.2.2.2.2.2.2.2.2.2.2.2.2.2.2.2.2.1 y.2.2.2.2.2.2.2.2.2.2.2.2.2.2.2.2.2.2.2.2.1 y.2.2.2.2.2.2.2.2.2.2.2.2.2.2.2.2.2.2.2.2.2.1 y.2.2.2.2.2.2.2.2.2.2.2.2.2.2.2.2.2.2.2.2.2.2.1 y.2.2.2.2.2.2.2.2.2.2.2.2.2.2.2.2.2.2.2.2.2.2.2.1 y.2.2.2.2.2.2.2.2.2.2.2.2.2.2.2.2.2.2.2.2.2.2.2.2.1 y.2.2.2.2.2.2.2.2.2.2.2.2.2.2.2.2.2.2.2.2.2.2.2.2.2.1 y.2.2.2.2.2.2.2.2.2.2.2.2.2.2.2.2.2.2.2.2.2.2.2.2.2.2.1 y.2.2.2.2.2.2.2.2.2.2.2.2.2.2.2.2.2.2.2.2.2.2.2.2.2.2.2 (xs (v3 + 1).toNatClampNeg) (xs (v3 + 2).toNatClampNeg) p72.1 p72.2.1 p72.2.2.1 p72.2.2.2.1 p72.2.2.2.2 hp72 bk1_0) (cwV 2 hts (hw_gV iw_746 gy_Mo_match) rfl rfl rfl (by decide +kernel) ⟨Nat.le_of_ble_eq_true rfl, Nat.le_of_ble_eq_true rfl⟩) ⟨hw_blind, va_recv hK hP (ci := 7) (q0 := k1) rfl bk1_0.1, hw_go hP hD hK hN⟩ rfl rfl hl.1 rfl (lv_room (Nat.le_of_ble_eq_true rfl)) d_La_law_329 ⟨Nat.le_of_ble_eq_true rfl, Nat.le_of_ble_eq_true rfl⟩) hS (fun w73 H locs hP hD hS hpp => ?_)
                    obtain ⟨q0, frc⟩ := hpp
                    have bk1_0 : wc_Mo cI cG cZ ad (k1) (y.1, y.2.1, y.2.2.1, y.2.2.2.1, y.2.2.2.2.1, y.2.2.2.2.2.1, y.2.2.2.2.2.2.1, y.2.2.2.2.2.2.2.1, y.2.2.2.2.2.2.2.2.1, y.2.2.2.2.2.2.2.2.2.1, y.2.2.2.2.2.2.2.2.2.2.1, y.2.2.2.2.2.2.2.2.2.2.2.1, y.2.2.2.2.2.2.2.2.2.2.2.2.1, y.2.2.2.2.2.2.2.2.2.2.2.2.2.1, y.2.2.2.2.2.2.2.2.2.2.2.2.2.2.1, y.2.2.2.2.2.2.2.2.2.2.2.2.2.2.2.1, y.2.2.2.2.2.2.2.2.2.2.2.2.2.2.2.2.1, y.2.2.2.2.2.2.2.2.2.2.2.2.2.2.2.2.2.1, y.2.2.2.2.2.2.2.2.2.2.2.2.2.2.2.2.2.2.1, y.2.2.2.2.2.2.2.2.2.2.2.2.2.2.2.2.2.2.2.1, y.2.2.2.2.2.2.2.2.2.2.2.2.2.2.2.2.2.2.2.2.1, y.2.2.2.2.2.2.2.2.2.2.2.2.2.2.2.2.2.2.2.2.2.1, p72.2.1, p72.2.2.1, p72.2.2.2.1, p72.2.2.2.2, y.2.2.2.2.2.2.2.2.2.2.2.2.2.2.2.2.2.2.2.2.2.2.2.2.2.2.1, y.2.2.2.2.2.2.2.2.2.2.2.2.2.2.2.2.2.2.2.2.2.2.2.2.2.2.2) w73 := q0
                    have bk0_0 : wc_Nd cI cG cZ ad (k0) (p68.2.1, x.2.1, p68.2.2, x.2.2.2.1, x.2.2.2.2.1, x.2.2.2.2.2) w73 := bk0_0.fr (fun j h1 h2 => frc j (by omega))
                    refine lv_icmp_eq (tgt := 502) hx hb d_La_law_332 (by decide) (fun c74 => ?_) (fun c74 => ?_)
                    · rw [if_pos c74] at hf
                      refine lv_iinc (v := v3 + 6) (lv' := [(3, .int (v3 + 6)), (0, .ref b), (1, .ref (ad k0)), (2, .ref (ad k1))]) hx hb d_La_law_502 hl (k := 3) rfl rfl (by decide) rfl (fun ls hl => ?_)
                      refine lv_goto (tgt := 18) hx hb d_La_law_505 (by decide) ?_
                      exact ih (p68.2.1, x.2.1, p68.2.2, x.2.2.2.1, x.2.2.2.2.1, x.2.2.2.2.2) (y.1, y.2.1, y.2.2.1, y.2.2.2.1, y.2.2.2.2.1, y.2.2.2.2.2.1, y.2.2.2.2.2.2.1, y.2.2.2.2.2.2.2.1, y.2.2.2.2.2.2.2.2.1, y.2.2.2.2.2.2.2.2.2.1, y.2.2.2.2.2.2.2.2.2.2.1, y.2.2.2.2.2.2.2.2.2.2.2.1, y.2.2.2.2.2.2.2.2.2.2.2.2.1, y.2.2.2.2.2.2.2.2.2.2.2.2.2.1, y.2.2.2.2.2.2.2.2.2.2.2.2.2.2.1, y.2.2.2.2.2.2.2.2.2.2.2.2.2.2.2.1, y.2.2.2.2.2.2.2.2.2.2.2.2.2.2.2.2.1, y.2.2.2.2.2.2.2.2.2.2.2.2.2.2.2.2.2.1, y.2.2.2.2.2.2.2.2.2.2.2.2.2.2.2.2.2.2.1, y.2.2.2.2.2.2.2.2.2.2.2.2.2.2.2.2.2.2.2.1, y.2.2.2.2.2.2.2.2.2.2.2.2.2.2.2.2.2.2.2.2.1, y.2.2.2.2.2.2.2.2.2.2.2.2.2.2.2.2.2.2.2.2.2.1, p72.2.1, p72.2.2.1, p72.2.2.2.1, p72.2.2.2.2, y.2.2.2.2.2.2.2.2.2.2.2.2.2.2.2.2.2.2.2.2.2.2.2.2.2.2.1, y.2.2.2.2.2.2.2.2.2.2.2.2.2.2.2.2.2.2.2.2.2.2.2.2.2.2.2) (v3 + 6) _ _ _ _ hP hD hS (lv_sub hl [1, 2, 3, 0] rfl) bk0_0 bk1_0 hf
                    · rw [if_neg c74] at hf
                      refine lv_iconst (v := 0) hx hb d_La_law_335 (by decide) ?_
                      exact absurd (Option.some.inj hf) (by decide)
                  · rw [if_neg c65] at hf
                    by_cases c75 : (xs v3.toNatClampNeg) &&& 15 = 7
                    · rw [if_pos c75] at hf
                      refine lv_tableIn (tgt := 337) (off := 304) hx hb d_La_law_33 (by rw [c75]; decide) (by rw [c75]; decide) (by rw [c75]; rfl) (by decide) ?_
                      refine lv_aload_n hx hb d_La_law_337 rfl (lv_at hl 1 rfl) ?_
                      refine lv_aload_n hx hb d_La_law_338 rfl (lv_at hl 0 rfl) ?_
                      refine lv_iload_n hx hb d_La_law_339 rfl (lv_at hl 3 rfl) ?_
                      refine lv_iconst (v := 1) hx hb d_La_law_340 (by decide) ?_
                      refine lv_iadd hx hb d_La_law_341 ?_
                      obtain ⟨z76, hf⟩ := g_atE hf
                      refine va_sld hx hb hX hbl hbA hS z76 d_La_law_342 ?_
                      refine lv_aload_n hx hb d_La_law_343 rfl (lv_at hl 0 rfl) ?_
                      refine lv_iload_n hx hb d_La_law_344 rfl (lv_at hl 3 rfl) ?_
                      refine lv_iconst (v := 2) hx hb d_La_law_345 (by decide) ?_
                      refine lv_iadd hx hb d_La_law_346 ?_
                      obtain ⟨z77, hf⟩ := g_atE hf
                      refine va_sld hx hb hX hbl hbA hS z77 d_La_law_347 ?_
                      obtain ⟨p78, hp78, hf⟩ := g_bd hf
                      refine hw_ci (va_runV (As := [.int (xs (v3 + 1).toNatClampNeg), .int (xs (v3 + 2).toNatClampNeg)]) (rest := []) ⟨hx, hb, hml, hown, hts⟩ (c_Nd_fuse l D cI cG cZ ad B ws N k0 x.1 x.2.1 x.2.2.1 x.2.2.2.1 x.2.2.2.2.1 x.2.2.2.2.2 (xs (v3 + 1).toNatClampNeg) (xs (v3 + 2).toNatClampNeg) p78.1 p78.2.1 p78.2.2.1 p78.2.2.2.1 p78.2.2.2.2.1 p78.2.2.2.2.2 hp78 bk0_0) (cwV 2 hts (hw_gV iw_465 gy_Nd_fuse) rfl rfl rfl (by decide +kernel) ⟨Nat.le_of_ble_eq_true rfl, Nat.le_of_ble_eq_true rfl⟩) ⟨hw_blind, va_recv hK hP (ci := 6) (q0 := k0) rfl bk0_0.1, hw_go hP hD hK hN⟩ rfl rfl hl.1 rfl (lv_room (Nat.le_of_ble_eq_true rfl)) d_La_law_348 ⟨Nat.le_of_ble_eq_true rfl, Nat.le_of_ble_eq_true rfl⟩) hS (fun w79 H locs hP hD hS hpp => ?_)
                      obtain ⟨q0, frc⟩ := hpp
                      have bk0_0 : wc_Nd cI cG cZ ad (k0) (p78.2.1, p78.2.2.1, p78.2.2.2.1, p78.2.2.2.2.1, x.2.2.2.2.1, p78.2.2.2.2.2) w79 := q0
                      have bk1_0 : wc_Mo cI cG cZ ad (k1) y w79 := bk1_0.fr (fun j h1 h2 => frc j (by omega))
                      refine lv_aload_n hx hb d_La_law_351 rfl (lv_at hl 2 rfl) ?_
                      refine lv_aload_n hx hb d_La_law_352 rfl (lv_at hl 0 rfl) ?_
                      refine lv_iload_n hx hb d_La_law_353 rfl (lv_at hl 3 rfl) ?_
                      refine lv_iconst (v := 1) hx hb d_La_law_354 (by decide) ?_
                      refine lv_iadd hx hb d_La_law_355 ?_
                      obtain ⟨z80, hf⟩ := g_atE hf
                      refine va_sld hx hb hX hbl hbA hS z80 d_La_law_356 ?_
                      refine lv_aload_n hx hb d_La_law_357 rfl (lv_at hl 0 rfl) ?_
                      refine lv_iload_n hx hb d_La_law_358 rfl (lv_at hl 3 rfl) ?_
                      refine lv_iconst (v := 2) hx hb d_La_law_359 (by decide) ?_
                      refine lv_iadd hx hb d_La_law_360 ?_
                      obtain ⟨z81, hf⟩ := g_atE hf
                      refine va_sld hx hb hX hbl hbA hS z81 d_La_law_361 ?_
                      obtain ⟨p82, hp82, hf⟩ := g_bd hf
                      refine hw_ci (va_runV (As := [.int (xs (v3 + 1).toNatClampNeg), .int (xs (v3 + 2).toNatClampNeg)]) (rest := [.int p78.1]) ⟨hx, hb, hml, hown, hts⟩ (c_Mo_fuse l D cI cG cZ ad B w79 N k1 y.1 y.2.1 y.2.2.1 y.2.2.2.1 y.2.2.2.2.1 y.2.2.2.2.2.1 y.2.2.2.2.2.2.1 y.2.2.2.2.2.2.2.1 y.2.2.2.2.2.2.2.2.1 y.2.2.2.2.2.2.2.2.2.1 y.2.2.2.2.2.2.2.2.2.2.1 y.2.2.2.2.2.2.2.2.2.2.2.1 y.2.2.2.2.2.2.2.2.2.2.2.2.1 y.2.2.2.2.2.2.2.2.2.2.2.2.2.1 y.2.2.2.2.2.2.2.2.2.2.2.2.2.2.1 y.2.2.2.2.2.2.2.2.2.2.2.2.2.2.2.1 y.2.2.2.2.2.2.2.2.2.2.2.2.2.2.2.2.1 y.2.2.2.2.2.2.2.2.2.2.2.2.2.2.2.2.2.1 y.2.2.2.2.2.2.2.2.2.2.2.2.2.2.2.2.2.2.1 y.2.2.2.2.2.2.2.2.2.2.2.2.2.2.2.2.2.2.2.1 y.2.2.2.2.2.2.2.2.2.2.2.2.2.2.2.2.2.2.2.2.1 y.2.2.2.2.2.2.2.2.2.2.2.2.2.2.2.2.2.2.2.2.2.1 y.2.2.2.2.2.2.2.2.2.2.2.2.2.2.2.2.2.2.2.2.2.2.1 y.2.2.2.2.2.2.2.2.2.2.2.2.2.2.2.2.2.2.2.2.2.2.2.1 y.2.2.2.2.2.2.2.2.2.2.2.2.2.2.2.2.2.2.2.2.2.2.2.2.1 y.2.2.2.2.2.2.2.2.2.2.2.2.2.2.2.2.2.2.2.2.2.2.2.2.2.1 y.2.2.2.2.2.2.2.2.2.2.2.2.2.2.2.2.2.2.2.2.2.2.2.2.2.2.1 y.2.2.2.2.2.2.2.2.2.2.2.2.2.2.2.2.2.2.2.2.2.2.2.2.2.2.2 (xs (v3 + 1).toNatClampNeg) (xs (v3 + 2).toNatClampNeg) p82.1 p82.2.1 p82.2.2.1 p82.2.2.2.1 p82.2.2.2.2.1 p82.2.2.2.2.2.1 p82.2.2.2.2.2.2.1 p82.2.2.2.2.2.2.2.1 p82.2.2.2.2.2.2.2.2.1 p82.2.2.2.2.2.2.2.2.2.1 p82.2.2.2.2.2.2.2.2.2.2.1 p82.2.2.2.2.2.2.2.2.2.2.2.1 p82.2.2.2.2.2.2.2.2.2.2.2.2 hp82 bk1_0) (cwV 2 hts (hw_gV iw_770 gy_Mo_fuse) rfl rfl rfl (by decide +kernel) ⟨Nat.le_of_ble_eq_true rfl, Nat.le_of_ble_eq_true rfl⟩) ⟨hw_blind, va_recv hK hP (ci := 7) (q0 := k1) rfl bk1_0.1, hw_go hP hD hK hN⟩ rfl rfl hl.1 rfl (lv_room (Nat.le_of_ble_eq_true rfl)) d_La_law_362 ⟨Nat.le_of_ble_eq_true rfl, Nat.le_of_ble_eq_true rfl⟩) hS (fun w83 H locs hP hD hS hpp => ?_)
                      obtain ⟨q0, frc⟩ := hpp
                      have bk1_0 : wc_Mo cI cG cZ ad (k1) (y.1, y.2.1, y.2.2.1, y.2.2.2.1, y.2.2.2.2.1, y.2.2.2.2.2.1, y.2.2.2.2.2.2.1, y.2.2.2.2.2.2.2.1, y.2.2.2.2.2.2.2.2.1, y.2.2.2.2.2.2.2.2.2.1, p82.2.1, y.2.2.2.2.2.2.2.2.2.2.2.1, p82.2.2.1, p82.2.2.2.1, p82.2.2.2.2.1, y.2.2.2.2.2.2.2.2.2.2.2.2.2.2.2.1, p82.2.2.2.2.2.1, y.2.2.2.2.2.2.2.2.2.2.2.2.2.2.2.2.2.1, p82.2.2.2.2.2.2.1, p82.2.2.2.2.2.2.2.1, y.2.2.2.2.2.2.2.2.2.2.2.2.2.2.2.2.2.2.2.2.1, y.2.2.2.2.2.2.2.2.2.2.2.2.2.2.2.2.2.2.2.2.2.1, p82.2.2.2.2.2.2.2.2.1, p82.2.2.2.2.2.2.2.2.2.1, p82.2.2.2.2.2.2.2.2.2.2.1, p82.2.2.2.2.2.2.2.2.2.2.2.1, p82.2.2.2.2.2.2.2.2.2.2.2.2, y.2.2.2.2.2.2.2.2.2.2.2.2.2.2.2.2.2.2.2.2.2.2.2.2.2.2.2) w83 := q0
                      have bk0_0 : wc_Nd cI cG cZ ad (k0) (p78.2.1, p78.2.2.1, p78.2.2.2.1, p78.2.2.2.2.1, x.2.2.2.2.1, p78.2.2.2.2.2) w83 := bk0_0.fr (fun j h1 h2 => frc j (by omega))
                      refine lv_icmp_eq (tgt := 502) hx hb d_La_law_365 (by decide) (fun c84 => ?_) (fun c84 => ?_)
                      · rw [if_pos c84] at hf
                        refine lv_iinc (v := v3 + 6) (lv' := [(3, .int (v3 + 6)), (0, .ref b), (1, .ref (ad k0)), (2, .ref (ad k1))]) hx hb d_La_law_502 hl (k := 3) rfl rfl (by decide) rfl (fun ls hl => ?_)
                        refine lv_goto (tgt := 18) hx hb d_La_law_505 (by decide) ?_
                        exact ih (p78.2.1, p78.2.2.1, p78.2.2.2.1, p78.2.2.2.2.1, x.2.2.2.2.1, p78.2.2.2.2.2) (y.1, y.2.1, y.2.2.1, y.2.2.2.1, y.2.2.2.2.1, y.2.2.2.2.2.1, y.2.2.2.2.2.2.1, y.2.2.2.2.2.2.2.1, y.2.2.2.2.2.2.2.2.1, y.2.2.2.2.2.2.2.2.2.1, p82.2.1, y.2.2.2.2.2.2.2.2.2.2.2.1, p82.2.2.1, p82.2.2.2.1, p82.2.2.2.2.1, y.2.2.2.2.2.2.2.2.2.2.2.2.2.2.2.1, p82.2.2.2.2.2.1, y.2.2.2.2.2.2.2.2.2.2.2.2.2.2.2.2.2.1, p82.2.2.2.2.2.2.1, p82.2.2.2.2.2.2.2.1, y.2.2.2.2.2.2.2.2.2.2.2.2.2.2.2.2.2.2.2.2.1, y.2.2.2.2.2.2.2.2.2.2.2.2.2.2.2.2.2.2.2.2.2.1, p82.2.2.2.2.2.2.2.2.1, p82.2.2.2.2.2.2.2.2.2.1, p82.2.2.2.2.2.2.2.2.2.2.1, p82.2.2.2.2.2.2.2.2.2.2.2.1, p82.2.2.2.2.2.2.2.2.2.2.2.2, y.2.2.2.2.2.2.2.2.2.2.2.2.2.2.2.2.2.2.2.2.2.2.2.2.2.2.2) (v3 + 6) _ _ _ _ hP hD hS (lv_sub hl [1, 2, 3, 0] rfl) bk0_0 bk1_0 hf
                      · rw [if_neg c84] at hf
                        refine lv_iconst (v := 0) hx hb d_La_law_368 (by decide) ?_
                        exact absurd (Option.some.inj hf) (by decide)
                    · rw [if_neg c75] at hf
                      by_cases c85 : (xs v3.toNatClampNeg) &&& 15 = 8
                      · rw [if_pos c85] at hf
                        refine lv_tableIn (tgt := 370) (off := 337) hx hb d_La_law_33 (by rw [c85]; decide) (by rw [c85]; decide) (by rw [c85]; rfl) (by decide) ?_
                        refine lv_aload_n hx hb d_La_law_370 rfl (lv_at hl 1 rfl) ?_
                        refine lv_aload_n hx hb d_La_law_371 rfl (lv_at hl 0 rfl) ?_
                        refine lv_iload_n hx hb d_La_law_372 rfl (lv_at hl 3 rfl) ?_
                        refine lv_iconst (v := 1) hx hb d_La_law_373 (by decide) ?_
                        refine lv_iadd hx hb d_La_law_374 ?_
                        obtain ⟨z86, hf⟩ := g_atE hf
                        refine va_sld hx hb hX hbl hbA hS z86 d_La_law_375 ?_
                        refine lv_aload_n hx hb d_La_law_376 rfl (lv_at hl 0 rfl) ?_
                        refine lv_iload_n hx hb d_La_law_377 rfl (lv_at hl 3 rfl) ?_
                        refine lv_iconst (v := 2) hx hb d_La_law_378 (by decide) ?_
                        refine lv_iadd hx hb d_La_law_379 ?_
                        obtain ⟨z87, hf⟩ := g_atE hf
                        refine va_sld hx hb hX hbl hbA hS z87 d_La_law_380 ?_
                        obtain ⟨p88, hp88, hf⟩ := g_bd hf
                        refine hw_ci0 (va_runV (As := [.int (xs (v3 + 1).toNatClampNeg), .int (xs (v3 + 2).toNatClampNeg)]) (rest := []) ⟨hx, hb, hml, hown, hts⟩ (c_Nd_found l D cI cG cZ ad B ws N k0 x.1 x.2.1 x.2.2.1 x.2.2.2.1 x.2.2.2.2.1 x.2.2.2.2.2 (xs (v3 + 1).toNatClampNeg) (xs (v3 + 2).toNatClampNeg) p88 hp88 bk0_0) (cwV 2 hts (hw_gV iw_481 gy_Nd_found) rfl rfl rfl (by decide +kernel) ⟨Nat.le_of_ble_eq_true rfl, Nat.le_of_ble_eq_true rfl⟩) ⟨hw_blind, va_recv hK hP (ci := 6) (q0 := k0) rfl bk0_0.1, hw_go hP hD hK hN⟩ rfl rfl hl.1 rfl (lv_room (Nat.le_of_ble_eq_true rfl)) d_La_law_381 ⟨Nat.le_of_ble_eq_true rfl, Nat.le_of_ble_eq_true rfl⟩) hS (fun H locs hP hD hS => ?_)
                        refine lv_aload_n hx hb d_La_law_384 rfl (lv_at hl 2 rfl) ?_
                        refine lv_aload_n hx hb d_La_law_385 rfl (lv_at hl 0 rfl) ?_
                        refine lv_iload_n hx hb d_La_law_386 rfl (lv_at hl 3 rfl) ?_
                        refine lv_iconst (v := 1) hx hb d_La_law_387 (by decide) ?_
                        refine lv_iadd hx hb d_La_law_388 ?_
                        obtain ⟨z89, hf⟩ := g_atE hf
                        refine va_sld hx hb hX hbl hbA hS z89 d_La_law_389 ?_
                        refine lv_aload_n hx hb d_La_law_390 rfl (lv_at hl 0 rfl) ?_
                        refine lv_iload_n hx hb d_La_law_391 rfl (lv_at hl 3 rfl) ?_
                        refine lv_iconst (v := 2) hx hb d_La_law_392 (by decide) ?_
                        refine lv_iadd hx hb d_La_law_393 ?_
                        obtain ⟨z90, hf⟩ := g_atE hf
                        refine va_sld hx hb hX hbl hbA hS z90 d_La_law_394 ?_
                        obtain ⟨p91, hp91, hf⟩ := g_bd hf
                        refine hw_ci0 (va_runV (As := [.int (xs (v3 + 1).toNatClampNeg), .int (xs (v3 + 2).toNatClampNeg)]) (rest := [.int p88]) ⟨hx, hb, hml, hown, hts⟩ (c_Mo_found l D cI cG cZ ad B ws N k1 y.1 y.2.1 y.2.2.1 y.2.2.2.1 y.2.2.2.2.1 y.2.2.2.2.2.1 y.2.2.2.2.2.2.1 y.2.2.2.2.2.2.2.1 y.2.2.2.2.2.2.2.2.1 y.2.2.2.2.2.2.2.2.2.1 y.2.2.2.2.2.2.2.2.2.2.1 y.2.2.2.2.2.2.2.2.2.2.2.1 y.2.2.2.2.2.2.2.2.2.2.2.2.1 y.2.2.2.2.2.2.2.2.2.2.2.2.2.1 y.2.2.2.2.2.2.2.2.2.2.2.2.2.2.1 y.2.2.2.2.2.2.2.2.2.2.2.2.2.2.2.1 y.2.2.2.2.2.2.2.2.2.2.2.2.2.2.2.2.1 y.2.2.2.2.2.2.2.2.2.2.2.2.2.2.2.2.2.1 y.2.2.2.2.2.2.2.2.2.2.2.2.2.2.2.2.2.2.1 y.2.2.2.2.2.2.2.2.2.2.2.2.2.2.2.2.2.2.2.1 y.2.2.2.2.2.2.2.2.2.2.2.2.2.2.2.2.2.2.2.2.1 y.2.2.2.2.2.2.2.2.2.2.2.2.2.2.2.2.2.2.2.2.2.1 y.2.2.2.2.2.2.2.2.2.2.2.2.2.2.2.2.2.2.2.2.2.2.1 y.2.2.2.2.2.2.2.2.2.2.2.2.2.2.2.2.2.2.2.2.2.2.2.1 y.2.2.2.2.2.2.2.2.2.2.2.2.2.2.2.2.2.2.2.2.2.2.2.2.1 y.2.2.2.2.2.2.2.2.2.2.2.2.2.2.2.2.2.2.2.2.2.2.2.2.2.1 y.2.2.2.2.2.2.2.2.2.2.2.2.2.2.2.2.2.2.2.2.2.2.2.2.2.2.1 y.2.2.2.2.2.2.2.2.2.2.2.2.2.2.2.2.2.2.2.2.2.2.2.2.2.2.2 (xs (v3 + 1).toNatClampNeg) (xs (v3 + 2).toNatClampNeg) p91 hp91 bk1_0) (cwV 2 hts (hw_gV iw_774 gy_Mo_found) rfl rfl rfl (by decide +kernel) ⟨Nat.le_of_ble_eq_true rfl, Nat.le_of_ble_eq_true rfl⟩) ⟨hw_blind, va_recv hK hP (ci := 7) (q0 := k1) rfl bk1_0.1, hw_go hP hD hK hN⟩ rfl rfl hl.1 rfl (lv_room (Nat.le_of_ble_eq_true rfl)) d_La_law_395 ⟨Nat.le_of_ble_eq_true rfl, Nat.le_of_ble_eq_true rfl⟩) hS (fun H locs hP hD hS => ?_)
                        refine lv_icmp_eq (tgt := 502) hx hb d_La_law_398 (by decide) (fun c92 => ?_) (fun c92 => ?_)
                        · rw [if_pos c92] at hf
                          refine lv_iinc (v := v3 + 6) (lv' := [(3, .int (v3 + 6)), (0, .ref b), (1, .ref (ad k0)), (2, .ref (ad k1))]) hx hb d_La_law_502 hl (k := 3) rfl rfl (by decide) rfl (fun ls hl => ?_)
                          refine lv_goto (tgt := 18) hx hb d_La_law_505 (by decide) ?_
                          exact ih x y (v3 + 6) _ _ _ _ hP hD hS (lv_sub hl [1, 2, 3, 0] rfl) bk0_0 bk1_0 hf
                        · rw [if_neg c92] at hf
                          refine lv_iconst (v := 0) hx hb d_La_law_401 (by decide) ?_
                          exact absurd (Option.some.inj hf) (by decide)
                      · rw [if_neg c85] at hf
                        by_cases c93 : (xs v3.toNatClampNeg) &&& 15 = 9
                        · rw [if_pos c93] at hf
                          refine lv_tableIn (tgt := 403) (off := 370) hx hb d_La_law_33 (by rw [c93]; decide) (by rw [c93]; decide) (by rw [c93]; rfl) (by decide) ?_
                          refine lv_aload_n hx hb d_La_law_403 rfl (lv_at hl 1 rfl) ?_
                          refine lv_aload_n hx hb d_La_law_404 rfl (lv_at hl 0 rfl) ?_
                          refine lv_iload_n hx hb d_La_law_405 rfl (lv_at hl 3 rfl) ?_
                          refine lv_iconst (v := 1) hx hb d_La_law_406 (by decide) ?_
                          refine lv_iadd hx hb d_La_law_407 ?_
                          obtain ⟨z94, hf⟩ := g_atE hf
                          refine va_sld hx hb hX hbl hbA hS z94 d_La_law_408 ?_
                          refine lv_aload_n hx hb d_La_law_409 rfl (lv_at hl 0 rfl) ?_
                          refine lv_iload_n hx hb d_La_law_410 rfl (lv_at hl 3 rfl) ?_
                          refine lv_iconst (v := 2) hx hb d_La_law_411 (by decide) ?_
                          refine lv_iadd hx hb d_La_law_412 ?_
                          obtain ⟨z95, hf⟩ := g_atE hf
                          refine va_sld hx hb hX hbl hbA hS z95 d_La_law_413 ?_
                          obtain ⟨p96, hp96, hf⟩ := g_bd hf
                          refine hw_ci0 (va_runV (As := [.int (xs (v3 + 1).toNatClampNeg), .int (xs (v3 + 2).toNatClampNeg)]) (rest := []) ⟨hx, hb, hml, hown, hts⟩ (c_Nd_node l D cI cG cZ ad B ws N k0 x.1 x.2.1 x.2.2.1 x.2.2.2.1 x.2.2.2.2.1 x.2.2.2.2.2 (xs (v3 + 1).toNatClampNeg) (xs (v3 + 2).toNatClampNeg) p96 hp96 bk0_0) (cwV 2 hts (hw_gV iw_485 gy_Nd_node) rfl rfl rfl (by decide +kernel) ⟨Nat.le_of_ble_eq_true rfl, Nat.le_of_ble_eq_true rfl⟩) ⟨hw_blind, va_recv hK hP (ci := 6) (q0 := k0) rfl bk0_0.1, hw_go hP hD hK hN⟩ rfl rfl hl.1 rfl (lv_room (Nat.le_of_ble_eq_true rfl)) d_La_law_414 ⟨Nat.le_of_ble_eq_true rfl, Nat.le_of_ble_eq_true rfl⟩) hS (fun H locs hP hD hS => ?_)
                          refine lv_aload_n hx hb d_La_law_417 rfl (lv_at hl 2 rfl) ?_
                          refine lv_aload_n hx hb d_La_law_418 rfl (lv_at hl 0 rfl) ?_
                          refine lv_iload_n hx hb d_La_law_419 rfl (lv_at hl 3 rfl) ?_
                          refine lv_iconst (v := 1) hx hb d_La_law_420 (by decide) ?_
                          refine lv_iadd hx hb d_La_law_421 ?_
                          obtain ⟨z97, hf⟩ := g_atE hf
                          refine va_sld hx hb hX hbl hbA hS z97 d_La_law_422 ?_
                          refine lv_aload_n hx hb d_La_law_423 rfl (lv_at hl 0 rfl) ?_
                          refine lv_iload_n hx hb d_La_law_424 rfl (lv_at hl 3 rfl) ?_
                          refine lv_iconst (v := 2) hx hb d_La_law_425 (by decide) ?_
                          refine lv_iadd hx hb d_La_law_426 ?_
                          obtain ⟨z98, hf⟩ := g_atE hf
                          refine va_sld hx hb hX hbl hbA hS z98 d_La_law_427 ?_
                          obtain ⟨p99, hp99, hf⟩ := g_bd hf
                          refine hw_ci0 (va_runV (As := [.int (xs (v3 + 1).toNatClampNeg), .int (xs (v3 + 2).toNatClampNeg)]) (rest := [.int p96]) ⟨hx, hb, hml, hown, hts⟩ (c_Mo_node l D cI cG cZ ad B ws N k1 y.1 y.2.1 y.2.2.1 y.2.2.2.1 y.2.2.2.2.1 y.2.2.2.2.2.1 y.2.2.2.2.2.2.1 y.2.2.2.2.2.2.2.1 y.2.2.2.2.2.2.2.2.1 y.2.2.2.2.2.2.2.2.2.1 y.2.2.2.2.2.2.2.2.2.2.1 y.2.2.2.2.2.2.2.2.2.2.2.1 y.2.2.2.2.2.2.2.2.2.2.2.2.1 y.2.2.2.2.2.2.2.2.2.2.2.2.2.1 y.2.2.2.2.2.2.2.2.2.2.2.2.2.2.1 y.2.2.2.2.2.2.2.2.2.2.2.2.2.2.2.1 y.2.2.2.2.2.2.2.2.2.2.2.2.2.2.2.2.1 y.2.2.2.2.2.2.2.2.2.2.2.2.2.2.2.2.2.1 y.2.2.2.2.2.2.2.2.2.2.2.2.2.2.2.2.2.2.1 y.2.2.2.2.2.2.2.2.2.2.2.2.2.2.2.2.2.2.2.1 y.2.2.2.2.2.2.2.2.2.2.2.2.2.2.2.2.2.2.2.2.1 y.2.2.2.2.2.2.2.2.2.2.2.2.2.2.2.2.2.2.2.2.2.1 y.2.2.2.2.2.2.2.2.2.2.2.2.2.2.2.2.2.2.2.2.2.2.1 y.2.2.2.2.2.2.2.2.2.2.2.2.2.2.2.2.2.2.2.2.2.2.2.1 y.2.2.2.2.2.2.2.2.2.2.2.2.2.2.2.2.2.2.2.2.2.2.2.2.1 y.2.2.2.2.2.2.2.2.2.2.2.2.2.2.2.2.2.2.2.2.2.2.2.2.2.1 y.2.2.2.2.2.2.2.2.2.2.2.2.2.2.2.2.2.2.2.2.2.2.2.2.2.2.1 y.2.2.2.2.2.2.2.2.2.2.2.2.2.2.2.2.2.2.2.2.2.2.2.2.2.2.2 (xs (v3 + 1).toNatClampNeg) (xs (v3 + 2).toNatClampNeg) p99 hp99 bk1_0) (cwV 2 hts (hw_gV iw_778 gy_Mo_node) rfl rfl rfl (by decide +kernel) ⟨Nat.le_of_ble_eq_true rfl, Nat.le_of_ble_eq_true rfl⟩) ⟨hw_blind, va_recv hK hP (ci := 7) (q0 := k1) rfl bk1_0.1, hw_go hP hD hK hN⟩ rfl rfl hl.1 rfl (lv_room (Nat.le_of_ble_eq_true rfl)) d_La_law_428 ⟨Nat.le_of_ble_eq_true rfl, Nat.le_of_ble_eq_true rfl⟩) hS (fun H locs hP hD hS => ?_)
                          refine lv_icmp_eq (tgt := 502) hx hb d_La_law_431 (by decide) (fun c100 => ?_) (fun c100 => ?_)
                          · rw [if_pos c100] at hf
                            refine lv_iinc (v := v3 + 6) (lv' := [(3, .int (v3 + 6)), (0, .ref b), (1, .ref (ad k0)), (2, .ref (ad k1))]) hx hb d_La_law_502 hl (k := 3) rfl rfl (by decide) rfl (fun ls hl => ?_)
                            refine lv_goto (tgt := 18) hx hb d_La_law_505 (by decide) ?_
                            exact ih x y (v3 + 6) _ _ _ _ hP hD hS (lv_sub hl [1, 2, 3, 0] rfl) bk0_0 bk1_0 hf
                          · rw [if_neg c100] at hf
                            refine lv_iconst (v := 0) hx hb d_La_law_434 (by decide) ?_
                            exact absurd (Option.some.inj hf) (by decide)
                        · rw [if_neg c93] at hf
                          by_cases c101 : (xs v3.toNatClampNeg) &&& 15 = 10
                          · rw [if_pos c101] at hf
                            refine lv_tableIn (tgt := 436) (off := 403) hx hb d_La_law_33 (by rw [c101]; decide) (by rw [c101]; decide) (by rw [c101]; rfl) (by decide) ?_
                            refine lv_aload_n hx hb d_La_law_436 rfl (lv_at hl 1 rfl) ?_
                            refine lv_aload_n hx hb d_La_law_437 rfl (lv_at hl 0 rfl) ?_
                            refine lv_iload_n hx hb d_La_law_438 rfl (lv_at hl 3 rfl) ?_
                            refine lv_iconst (v := 1) hx hb d_La_law_439 (by decide) ?_
                            refine lv_iadd hx hb d_La_law_440 ?_
                            obtain ⟨z102, hf⟩ := g_atE hf
                            refine va_sld hx hb hX hbl hbA hS z102 d_La_law_441 ?_
                            refine lv_aload_n hx hb d_La_law_442 rfl (lv_at hl 0 rfl) ?_
                            refine lv_iload_n hx hb d_La_law_443 rfl (lv_at hl 3 rfl) ?_
                            refine lv_iconst (v := 2) hx hb d_La_law_444 (by decide) ?_
                            refine lv_iadd hx hb d_La_law_445 ?_
                            obtain ⟨z103, hf⟩ := g_atE hf
                            refine va_sld hx hb hX hbl hbA hS z103 d_La_law_446 ?_
                            refine lv_aload_n hx hb d_La_law_447 rfl (lv_at hl 0 rfl) ?_
                            refine lv_iload_n hx hb d_La_law_448 rfl (lv_at hl 3 rfl) ?_
                            refine lv_iconst (v := 3) hx hb d_La_law_449 (by decide) ?_
                            refine lv_iadd hx hb d_La_law_450 ?_
                            obtain ⟨z104, hf⟩ := g_atE hf
                            refine va_sld hx hb hX hbl hbA hS z104 d_La_law_451 ?_
                            obtain ⟨p105, hp105, hf⟩ := g_bd hf
                            refine hw_ci0 (va_runV (As := [.int (xs (v3 + 1).toNatClampNeg), .int (xs (v3 + 2).toNatClampNeg), .int (xs (v3 + 3).toNatClampNeg)]) (rest := []) ⟨hx, hb, hml, hown, hts⟩ (c_Nd_neighbour l D cI cG cZ ad B ws N k0 x.1 x.2.1 x.2.2.1 x.2.2.2.1 x.2.2.2.2.1 x.2.2.2.2.2 (xs (v3 + 1).toNatClampNeg) (xs (v3 + 2).toNatClampNeg) (xs (v3 + 3).toNatClampNeg) p105 hp105 bk0_0) (cwV 3 hts (hw_gV iw_514 gy_Nd_neighbour) rfl rfl rfl (by decide +kernel) ⟨Nat.le_of_ble_eq_true rfl, Nat.le_of_ble_eq_true rfl⟩) ⟨hw_blind, va_recv hK hP (ci := 6) (q0 := k0) rfl bk0_0.1, hw_go hP hD hK hN⟩ rfl rfl hl.1 rfl (lv_room (Nat.le_of_ble_eq_true rfl)) d_La_law_452 ⟨Nat.le_of_ble_eq_true rfl, Nat.le_of_ble_eq_true rfl⟩) hS (fun H locs hP hD hS => ?_)
                            refine lv_aload_n hx hb d_La_law_455 rfl (lv_at hl 2 rfl) ?_
                            refine lv_aload_n hx hb d_La_law_456 rfl (lv_at hl 0 rfl) ?_
                            refine lv_iload_n hx hb d_La_law_457 rfl (lv_at hl 3 rfl) ?_
                            refine lv_iconst (v := 1) hx hb d_La_law_458 (by decide) ?_
                            refine lv_iadd hx hb d_La_law_459 ?_
                            obtain ⟨z106, hf⟩ := g_atE hf
                            refine va_sld hx hb hX hbl hbA hS z106 d_La_law_460 ?_
                            refine lv_aload_n hx hb d_La_law_461 rfl (lv_at hl 0 rfl) ?_
                            refine lv_iload_n hx hb d_La_law_462 rfl (lv_at hl 3 rfl) ?_
                            refine lv_iconst (v := 2) hx hb d_La_law_463 (by decide) ?_
                            refine lv_iadd hx hb d_La_law_464 ?_
                            obtain ⟨z107, hf⟩ := g_atE hf
                            refine va_sld hx hb hX hbl hbA hS z107 d_La_law_465 ?_
                            refine lv_aload_n hx hb d_La_law_466 rfl (lv_at hl 0 rfl) ?_
                            refine lv_iload_n hx hb d_La_law_467 rfl (lv_at hl 3 rfl) ?_
                            refine lv_iconst (v := 3) hx hb d_La_law_468 (by decide) ?_
                            refine lv_iadd hx hb d_La_law_469 ?_
                            obtain ⟨z108, hf⟩ := g_atE hf
                            refine va_sld hx hb hX hbl hbA hS z108 d_La_law_470 ?_
                            obtain ⟨p109, hp109, hf⟩ := g_bd hf
                            refine hw_ci0 (va_runV (As := [.int (xs (v3 + 1).toNatClampNeg), .int (xs (v3 + 2).toNatClampNeg), .int (xs (v3 + 3).toNatClampNeg)]) (rest := [.int p105]) ⟨hx, hb, hml, hown, hts⟩ (c_Mo_neighbour l D cI cG cZ ad B ws N k1 y.1 y.2.1 y.2.2.1 y.2.2.2.1 y.2.2.2.2.1 y.2.2.2.2.2.1 y.2.2.2.2.2.2.1 y.2.2.2.2.2.2.2.1 y.2.2.2.2.2.2.2.2.1 y.2.2.2.2.2.2.2.2.2.1 y.2.2.2.2.2.2.2.2.2.2.1 y.2.2.2.2.2.2.2.2.2.2.2.1 y.2.2.2.2.2.2.2.2.2.2.2.2.1 y.2.2.2.2.2.2.2.2.2.2.2.2.2.1 y.2.2.2.2.2.2.2.2.2.2.2.2.2.2.1 y.2.2.2.2.2.2.2.2.2.2.2.2.2.2.2.1 y.2.2.2.2.2.2.2.2.2.2.2.2.2.2.2.2.1 y.2.2.2.2.2.2.2.2.2.2.2.2.2.2.2.2.2.1 y.2.2.2.2.2.2.2.2.2.2.2.2.2.2.2.2.2.2.1 y.2.2.2.2.2.2.2.2.2.2.2.2.2.2.2.2.2.2.2.1 y.2.2.2.2.2.2.2.2.2.2.2.2.2.2.2.2.2.2.2.2.1 y.2.2.2.2.2.2.2.2.2.2.2.2.2.2.2.2.2.2.2.2.2.1 y.2.2.2.2.2.2.2.2.2.2.2.2.2.2.2.2.2.2.2.2.2.2.1 y.2.2.2.2.2.2.2.2.2.2.2.2.2.2.2.2.2.2.2.2.2.2.2.1 y.2.2.2.2.2.2.2.2.2.2.2.2.2.2.2.2.2.2.2.2.2.2.2.2.1 y.2.2.2.2.2.2.2.2.2.2.2.2.2.2.2.2.2.2.2.2.2.2.2.2.2.1 y.2.2.2.2.2.2.2.2.2.2.2.2.2.2.2.2.2.2.2.2.2.2.2.2.2.2.1 y.2.2.2.2.2.2.2.2.2.2.2.2.2.2.2.2.2.2.2.2.2.2.2.2.2.2.2 (xs (v3 + 1).toNatClampNeg) (xs (v3 + 2).toNatClampNeg) (xs (v3 + 3).toNatClampNeg) p109 hp109 bk1_0) (cwV 3 hts (hw_gV iw_782 gy_Mo_neighbour) rfl rfl rfl (by decide +kernel) ⟨Nat.le_of_ble_eq_true rfl, Nat.le_of_ble_eq_true rfl⟩) ⟨hw_blind, va_recv hK hP (ci := 7) (q0 := k1) rfl bk1_0.1, hw_go hP hD hK hN⟩ rfl rfl hl.1 rfl (lv_room (Nat.le_of_ble_eq_true rfl)) d_La_law_471 ⟨Nat.le_of_ble_eq_true rfl, Nat.le_of_ble_eq_true rfl⟩) hS (fun H locs hP hD hS => ?_)
                            refine lv_icmp_eq (tgt := 502) hx hb d_La_law_474 (by decide) (fun c110 => ?_) (fun c110 => ?_)
                            · rw [if_pos c110] at hf
                              refine lv_iinc (v := v3 + 6) (lv' := [(3, .int (v3 + 6)), (0, .ref b), (1, .ref (ad k0)), (2, .ref (ad k1))]) hx hb d_La_law_502 hl (k := 3) rfl rfl (by decide) rfl (fun ls hl => ?_)
                              refine lv_goto (tgt := 18) hx hb d_La_law_505 (by decide) ?_
                              exact ih x y (v3 + 6) _ _ _ _ hP hD hS (lv_sub hl [1, 2, 3, 0] rfl) bk0_0 bk1_0 hf
                            · rw [if_neg c110] at hf
                              refine lv_iconst (v := 0) hx hb d_La_law_477 (by decide) ?_
                              exact absurd (Option.some.inj hf) (by decide)
                          · rw [if_neg c101] at hf
                            by_cases c111 : (xs v3.toNatClampNeg) &&& 15 = 11
                            · rw [if_pos c111] at hf
                              refine lv_tableIn (tgt := 479) (off := 446) hx hb d_La_law_33 (by rw [c111]; decide) (by rw [c111]; decide) (by rw [c111]; rfl) (by decide) ?_
                              refine lv_aload_n hx hb d_La_law_479 rfl (lv_at hl 1 rfl) ?_
                              refine lv_aload_n hx hb d_La_law_480 rfl (lv_at hl 0 rfl) ?_
                              refine lv_iload_n hx hb d_La_law_481 rfl (lv_at hl 3 rfl) ?_
                              refine lv_iconst (v := 1) hx hb d_La_law_482 (by decide) ?_
                              refine lv_iadd hx hb d_La_law_483 ?_
                              obtain ⟨z112, hf⟩ := g_atE hf
                              refine va_sld hx hb hX hbl hbA hS z112 d_La_law_484 ?_
                              obtain ⟨p113, hp113, hf⟩ := g_bd hf
                              refine hw_ci (va_runV (As := [.int (xs (v3 + 1).toNatClampNeg)]) (rest := []) ⟨hx, hb, hml, hown, hts⟩ (c_Nd_count l D cI cG cZ ad B ws N k0 x.1 x.2.1 x.2.2.1 x.2.2.2.1 x.2.2.2.2.1 x.2.2.2.2.2 (xs (v3 + 1).toNatClampNeg) p113.1 p113.2.1 p113.2.2 hp113 bk0_0) (cwV 1 hts (hw_gV iw_519 gy_Nd_count) rfl rfl rfl (by decide +kernel) ⟨Nat.le_of_ble_eq_true rfl, Nat.le_of_ble_eq_true rfl⟩) ⟨hw_blind, va_recv hK hP (ci := 6) (q0 := k0) rfl bk0_0.1, hw_go hP hD hK hN⟩ rfl rfl hl.1 rfl (lv_room (Nat.le_of_ble_eq_true rfl)) d_La_law_485 ⟨Nat.le_of_ble_eq_true rfl, Nat.le_of_ble_eq_true rfl⟩) hS (fun w114 H locs hP hD hS hpp => ?_)
                              obtain ⟨q0, frc⟩ := hpp
                              have bk0_0 : wc_Nd cI cG cZ ad (k0) (x.1, p113.2.1, x.2.2.1, p113.2.2, x.2.2.2.2.1, x.2.2.2.2.2) w114 := q0
                              have bk1_0 : wc_Mo cI cG cZ ad (k1) y w114 := bk1_0.fr (fun j h1 h2 => frc j (by omega))
                              refine lv_aload_n hx hb d_La_law_488 rfl (lv_at hl 2 rfl) ?_
                              refine lv_aload_n hx hb d_La_law_489 rfl (lv_at hl 0 rfl) ?_
                              refine lv_iload_n hx hb d_La_law_490 rfl (lv_at hl 3 rfl) ?_
                              refine lv_iconst (v := 1) hx hb d_La_law_491 (by decide) ?_
                              refine lv_iadd hx hb d_La_law_492 ?_
                              obtain ⟨z115, hf⟩ := g_atE hf
                              refine va_sld hx hb hX hbl hbA hS z115 d_La_law_493 ?_
                              obtain ⟨p116, hp116, hf⟩ := g_bd hf
                              refine hw_ci (va_runV (As := [.int (xs (v3 + 1).toNatClampNeg)]) (rest := [.int p113.1]) ⟨hx, hb, hml, hown, hts⟩ (c_Mo_count l D cI cG cZ ad B w114 N k1 y.1 y.2.1 y.2.2.1 y.2.2.2.1 y.2.2.2.2.1 y.2.2.2.2.2.1 y.2.2.2.2.2.2.1 y.2.2.2.2.2.2.2.1 y.2.2.2.2.2.2.2.2.1 y.2.2.2.2.2.2.2.2.2.1 y.2.2.2.2.2.2.2.2.2.2.1 y.2.2.2.2.2.2.2.2.2.2.2.1 y.2.2.2.2.2.2.2.2.2.2.2.2.1 y.2.2.2.2.2.2.2.2.2.2.2.2.2.1 y.2.2.2.2.2.2.2.2.2.2.2.2.2.2.1 y.2.2.2.2.2.2.2.2.2.2.2.2.2.2.2.1 y.2.2.2.2.2.2.2.2.2.2.2.2.2.2.2.2.1 y.2.2.2.2.2.2.2.2.2.2.2.2.2.2.2.2.2.1 y.2.2.2.2.2.2.2.2.2.2.2.2.2.2.2.2.2.2.1 y.2.2.2.2.2.2.2.2.2.2.2.2.2.2.2.2.2.2.2.1 y.2.2.2.2.2.2.2.2.2.2.2.2.2.2.2.2.2.2.2.2.1 y.2.2.2.2.2.2.2.2.2.2.2.2.2.2.2.2.2.2.2.2.2.1 y.2.2.2.2.2.2.2.2.2.2.2.2.2.2.2.2.2.2.2.2.2.2.1 y.2.2.2.2.2.2.2.2.2.2.2.2.2.2.2.2.2.2.2.2.2.2.2.1 y.2.2.2.2.2.2.2.2.2.2.2.2.2.2.2.2.2.2.2.2.2.2.2.2.1 y.2.2.2.2.2.2.2.2.2.2.2.2.2.2.2.2.2.2.2.2.2.2.2.2.2.1 y.2.2.2.2.2.2.2.2.2.2.2.2.2.2.2.2.2.2.2.2.2.2.2.2.2.2.1 y.2.2.2.2.2.2.2.2.2.2.2.2.2.2.2.2.2.2.2.2.2.2.2.2.2.2.2 (xs (v3 + 1).toNatClampNeg) p116.1 p116.2.1 p116.2.2 hp116 bk1_0) (cwV 1 hts (hw_gV iw_786 gy_Mo_count) rfl rfl rfl (by decide +kernel) ⟨Nat.le_of_ble_eq_true rfl, Nat.le_of_ble_eq_true rfl⟩) ⟨hw_blind, va_recv hK hP (ci := 7) (q0 := k1) rfl bk1_0.1, hw_go hP hD hK hN⟩ rfl rfl hl.1 rfl (lv_room (Nat.le_of_ble_eq_true rfl)) d_La_law_494 ⟨Nat.le_of_ble_eq_true rfl, Nat.le_of_ble_eq_true rfl⟩) hS (fun w117 H locs hP hD hS hpp => ?_)
                              obtain ⟨q0, frc⟩ := hpp
                              have bk1_0 : wc_Mo cI cG cZ ad (k1) (y.1, y.2.1, y.2.2.1, y.2.2.2.1, y.2.2.2.2.1, y.2.2.2.2.2.1, y.2.2.2.2.2.2.1, y.2.2.2.2.2.2.2.1, y.2.2.2.2.2.2.2.2.1, y.2.2.2.2.2.2.2.2.2.1, p116.2.1, y.2.2.2.2.2.2.2.2.2.2.2.1, p116.2.2, y.2.2.2.2.2.2.2.2.2.2.2.2.2.1, y.2.2.2.2.2.2.2.2.2.2.2.2.2.2.1, y.2.2.2.2.2.2.2.2.2.2.2.2.2.2.2.1, y.2.2.2.2.2.2.2.2.2.2.2.2.2.2.2.2.1, y.2.2.2.2.2.2.2.2.2.2.2.2.2.2.2.2.2.1, y.2.2.2.2.2.2.2.2.2.2.2.2.2.2.2.2.2.2.1, y.2.2.2.2.2.2.2.2.2.2.2.2.2.2.2.2.2.2.2.1, y.2.2.2.2.2.2.2.2.2.2.2.2.2.2.2.2.2.2.2.2.1, y.2.2.2.2.2.2.2.2.2.2.2.2.2.2.2.2.2.2.2.2.2.1, y.2.2.2.2.2.2.2.2.2.2.2.2.2.2.2.2.2.2.2.2.2.2.1, y.2.2.2.2.2.2.2.2.2.2.2.2.2.2.2.2.2.2.2.2.2.2.2.1, y.2.2.2.2.2.2.2.2.2.2.2.2.2.2.2.2.2.2.2.2.2.2.2.2.1, y.2.2.2.2.2.2.2.2.2.2.2.2.2.2.2.2.2.2.2.2.2.2.2.2.2.1, y.2.2.2.2.2.2.2.2.2.2.2.2.2.2.2.2.2.2.2.2.2.2.2.2.2.2.1, y.2.2.2.2.2.2.2.2.2.2.2.2.2.2.2.2.2.2.2.2.2.2.2.2.2.2.2) w117 := q0
                              have bk0_0 : wc_Nd cI cG cZ ad (k0) (x.1, p113.2.1, x.2.2.1, p113.2.2, x.2.2.2.2.1, x.2.2.2.2.2) w117 := bk0_0.fr (fun j h1 h2 => frc j (by omega))
                              refine lv_icmp_eq (tgt := 502) hx hb d_La_law_497 (by decide) (fun c118 => ?_) (fun c118 => ?_)
                              · rw [if_pos c118] at hf
                                refine lv_iinc (v := v3 + 6) (lv' := [(3, .int (v3 + 6)), (0, .ref b), (1, .ref (ad k0)), (2, .ref (ad k1))]) hx hb d_La_law_502 hl (k := 3) rfl rfl (by decide) rfl (fun ls hl => ?_)
                                refine lv_goto (tgt := 18) hx hb d_La_law_505 (by decide) ?_
                                exact ih (x.1, p113.2.1, x.2.2.1, p113.2.2, x.2.2.2.2.1, x.2.2.2.2.2) (y.1, y.2.1, y.2.2.1, y.2.2.2.1, y.2.2.2.2.1, y.2.2.2.2.2.1, y.2.2.2.2.2.2.1, y.2.2.2.2.2.2.2.1, y.2.2.2.2.2.2.2.2.1, y.2.2.2.2.2.2.2.2.2.1, p116.2.1, y.2.2.2.2.2.2.2.2.2.2.2.1, p116.2.2, y.2.2.2.2.2.2.2.2.2.2.2.2.2.1, y.2.2.2.2.2.2.2.2.2.2.2.2.2.2.1, y.2.2.2.2.2.2.2.2.2.2.2.2.2.2.2.1, y.2.2.2.2.2.2.2.2.2.2.2.2.2.2.2.2.1, y.2.2.2.2.2.2.2.2.2.2.2.2.2.2.2.2.2.1, y.2.2.2.2.2.2.2.2.2.2.2.2.2.2.2.2.2.2.1, y.2.2.2.2.2.2.2.2.2.2.2.2.2.2.2.2.2.2.2.1, y.2.2.2.2.2.2.2.2.2.2.2.2.2.2.2.2.2.2.2.2.1, y.2.2.2.2.2.2.2.2.2.2.2.2.2.2.2.2.2.2.2.2.2.1, y.2.2.2.2.2.2.2.2.2.2.2.2.2.2.2.2.2.2.2.2.2.2.1, y.2.2.2.2.2.2.2.2.2.2.2.2.2.2.2.2.2.2.2.2.2.2.2.1, y.2.2.2.2.2.2.2.2.2.2.2.2.2.2.2.2.2.2.2.2.2.2.2.2.1, y.2.2.2.2.2.2.2.2.2.2.2.2.2.2.2.2.2.2.2.2.2.2.2.2.2.1, y.2.2.2.2.2.2.2.2.2.2.2.2.2.2.2.2.2.2.2.2.2.2.2.2.2.2.1, y.2.2.2.2.2.2.2.2.2.2.2.2.2.2.2.2.2.2.2.2.2.2.2.2.2.2.2) (v3 + 6) _ _ _ _ hP hD hS (lv_sub hl [1, 2, 3, 0] rfl) bk0_0 bk1_0 hf
                              · rw [if_neg c118] at hf
                                refine lv_iconst (v := 0) hx hb d_La_law_500 (by decide) ?_
                                exact absurd (Option.some.inj hf) (by decide)
                            · rw [if_neg c111] at hf
                              refine lv_tableOut (tgt := 502) hx hb d_La_law_33 (by have a0 := lv_neT c3 (a := 0) rfl; have a1 := lv_neT c19 (a := 1) rfl; have a2 := lv_neT c27 (a := 2) rfl; have a3 := lv_neT c33 (a := 3) rfl; have a4 := lv_neT c47 (a := 4) rfl; have a5 := lv_neT c57 (a := 5) rfl; have a6 := lv_neT c65 (a := 6) rfl; have a7 := lv_neT c75 (a := 7) rfl; have a8 := lv_neT c85 (a := 8) rfl; have a9 := lv_neT c93 (a := 9) rfl; have a10 := lv_neT c101 (a := 10) rfl; have a11 := lv_neT c111 (a := 11) rfl; omega) (by decide) ?_
                              refine lv_iinc (v := v3 + 6) (lv' := [(3, .int (v3 + 6)), (0, .ref b), (1, .ref (ad k0)), (2, .ref (ad k1))]) hx hb d_La_law_502 hl (k := 3) rfl rfl (by decide) rfl (fun ls hl => ?_)
                              refine lv_goto (tgt := 18) hx hb d_La_law_505 (by decide) ?_
                              exact ih x y (v3 + 6) _ _ _ _ hP hD hS (lv_sub hl [1, 2, 3, 0] rfl) bk0_0 bk1_0 hf
