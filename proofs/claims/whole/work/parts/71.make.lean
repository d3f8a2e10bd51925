def va_AOA (t : FieldType) (U : State) : Prop := (Cond.arrayOver (.array t)).before #[] U = true
theorem va_AOA.of {t : FieldType} {A : Array Value} {U : State} (h : (Cond.arrayOver (.array t)).before A U = true) : va_AOA t U := h
theorem va_AOA.use {t : FieldType} {A : Array Value} {U : State} (h : va_AOA t U) : (Cond.arrayOver (.array t)).before A U = true := h
theorem va_AOA.moved {t : FieldType} {u U : State} (hvm : u.vm.Alike U.vm) (h : va_AOA t u) : va_AOA t U := by
  have h1 : (Cond.arrayOver (.array t)).before #[] (u.setVm U.vm) = true := by rw [Cond.arrayOver_setVmC hvm]; exact h
  exact h1
/-- f, but v at every address of l -/
def vr_up {α : Type} (f : Nat → α) (l : List Nat) (v : α) : Nat → α := fun a => if a ∈ l then v else f a
theorem vr_up_in {α : Type} {f : Nat → α} {l : List Nat} {v : α} {a : Nat} (h : a ∈ l) : vr_up f l v a = v := if_pos h
theorem vr_up_ne {α : Type} {f : Nat → α} {l : List Nat} {v : α} {a : Nat} (h : a ∉ l) : vr_up f l v a = f a := if_neg h
theorem vr_rows {L l : List Nat} {f : Nat → va_E} {e : va_E} (h : ∀ a, a ∈ l → a ∉ L) : va_pl L f ++ l.map (fun a => (a, e)) = va_pl (L ++ l) (vr_up f l e) := by
  unfold va_pl
  rw [List.map_append]
  congr 1
  · apply List.map_congr_left
    intro a ha
    rw [vr_up_ne (fun q => h a q ha)]
  · apply List.map_congr_left
    intro a ha
    rw [vr_up_in ha]
theorem vr_lay {X rows : va_W} {x : Nat × va_E} {pl : va_W} {D : va_G} {cl : List vw_C} {H : Heap} (hP : va_P D cl (((X ++ pl) ++ [x]) ++ rows) H) : va_P D cl ((X ++ [x]) ++ (pl ++ rows)) H := by
  rw [List.append_assoc (X ++ pl)] at hP
  have h := va_P.swap hP
  rw [← List.append_assoc X] at h
  have h2 := va_P.swap h
  rw [List.append_assoc (X ++ [x])] at h2
  exact h2
theorem vr_layD {X rows : va_W} {x : Nat × va_E} {pl : va_W} {A : Nat → Prop} (hD : va_D A (((X ++ pl) ++ [x]) ++ rows)) : va_D A ((X ++ [x]) ++ (pl ++ rows)) := by
  rw [List.append_assoc (X ++ pl)] at hD
  have h := va_D.swap hD
  rw [← List.append_assoc X] at h
  have h2 := va_D.swap h
  rw [List.append_assoc (X ++ [x])] at h2
  exact h2
theorem vr_outer (c : ClassId) (N h0 : Nat) : ∀ i : Nat, Jvm.Free.Multi.outerC c N h0 i = arrV c N (fun j => va_rf (if j < i then some (h0 + 1 + j) else none))
  | 0 => by
    show ({ cls := c, slots := Array.replicate N .null, vm := .none } : Cell) = _
    rw [arrV_new]
    refine congrArg (arrV c N) (funext fun j => ?_)
    simp [va_rf]
  | i + 1 => by
    show (Jvm.Free.Multi.outerC c N h0 i).setSlot i (.ref (h0 + 1 + i)) = _
    rw [vr_outer c N h0 i, arrV_store]
    refine congrArg (arrV c N) (funext fun j => ?_)
    by_cases e : j = i
    · subst e
      simp [updV, va_rf]
    · by_cases h : j < i
      · simp [updV, e, h, Nat.lt_succ_of_lt h]
      · simp [updV, e, h, show ¬ j < i + 1 by omega]
section VGM
variable {p : Program} {l : Launch} {e : Env} {R : Room} {s : State} {m : MethodId} {args : Array Value} {below : List Frame} {meth : Method} {c : Code} {H : Heap} {locs : List Loc} {cells slots : Nat} {Q : State → Prop}
variable {cc : ByteArray} {pc : Nat} {ls : Array Slot} {rest : List Value} {D : va_G} {cl : List vw_C} {A : Nat → Prop} {a : Nat} {tys : List (ClassId × FieldType)} {ws : va_W} {H0 : Heap}
theorem va_mna {X : va_W} {L : List Nat} {f : Nat → va_E} {cc : ByteArray} (hexec : p.tables.exec = Jvm.exec) (hb : c.code = cc) {own : String} {index : Nat} {ty : FieldType} {cy : ClassId} (hown : s.vm.findClass own = some m.cls) (hclink : (Cond.classLink own index ("[" ++ (FieldType.array ty).toString)).before args s = true) (hover : va_AOA ty s) (harr : (Cond.arrayClass ty).before args s = true) (hcy : s.vm.findClass (FieldType.array ty).toString = some cy)
    (hK : va_K D cl tys s) (hP : va_P D cl (X ++ va_pl L f) H) (hD : va_D A (X ++ va_pl L f)) (hS : va_S A H0 H locs) (hA : ∀ q, H0.size ≤ q → A q) {n k : Int32} {N' K' : Nat} {z : vp_A} (hn : ¬ n < 0) (hk : ¬ k < 0) (hN : n.toNatClampNeg = N') (hM : k.toNatClampNeg = K')
    (hb1 : N' * 4 ≤ 536870912) (hb2 : K' * componentBytes ty ≤ 536870912) (hb3 : K' ≤ 536870912) (hdf : fits ty (defaultValue ty) = true) (hdd : (defaultValue ty).isDefault = true) (hcells : cells + (1 + N') ≤ R.cells) (hslots : slots + (N' + N' * K') ≤ R.slots) (hz : ∀ c : ClassId, Jvm.Free.Multi.innerC c K' (defaultValue ty) = vp_cell c z) (hdg : decode cc pc = .ok (.multianewarray index 2, 4))
    (kk : ∀ (q : Nat) (r : Nat → Nat) (cA : ClassId) (H1 : Heap), (∀ i j : Nat, i < N' → j < N' → r i = r j → i = j) → (∀ i : Nat, i < N' → r i ∉ L) → va_K D cl (tys ++ [(cA, .array ty)]) s →
      va_P D cl ((X ++ [(q, .inl (cA, N', .inr (.inr (.inr (.inr (fun i => if i < N' then some (r i) else none))))))]) ++ va_pl (L ++ (List.range N').map r) (vr_up f ((List.range N').map r) (.inl (cy, z)))) H1 → va_D A ((X ++ [(q, .inl (cA, N', .inr (.inr (.inr (.inr (fun i => if i < N' then some (r i) else none))))))]) ++ va_pl (L ++ (List.range N').map r) (vr_up f ((List.range N').map r) (.inl (cy, z)))) → va_S A H0 H1 locs →
      W p l e R s m args below meth c H1 locs (cells + 1 + N') (slots + N' + N' * K') Q (F0 m (pc + 4) ls (.ref q :: rest))) : W p l e R s m args below meth c H locs cells slots Q (F0 m pc ls (.int k :: .int n :: rest)) := by
  subst hN
  subst hM
  intro T hT Xs
  obtain ⟨vm₁, cA, comp, -, fA, fC, hO, -, X', step⟩ := Xs.multianewarray2F hexec hown hclink (va_AOA.use hover) harr (g := F0 m pc ls (.int k :: .int n :: rest)) rfl (by rw [hb]; exact hdg) rfl hn hk hb1 hb2 hb3 hdf hdd hcells hslots
  have ec : some cy = some comp := hcy.symm.trans fC
  cases ec
  generalize hF : Jvm.Free.Multi.fill (T.setVm vm₁) cA cy n.toNatClampNeg k.toNatClampNeg (defaultValue ty) n.toNatClampNeg = F at X' step
  have hTh : (T.setVm vm₁).heap = H := hT
  obtain ⟨f1, f2, -, -⟩ := Jvm.Free.Multi.fill_facts (T.setVm vm₁) cA cy n.toNatClampNeg k.toNatClampNeg (defaultValue ty) n.toNatClampNeg
  rw [hF, hTh] at f1 f2
  have hold : ∀ x : Nat, x < H.size → F.heap[x]? = H[x]? := fun x hx => by
    have := Jvm.Free.Multi.fill_old (T.setVm vm₁) cA cy n.toNatClampNeg k.toNatClampNeg (defaultValue ty) (a := x) (by rw [hTh]; exact hx) n.toNatClampNeg
    rw [hF, hTh] at this
    exact this
  have hrow : ∀ j : Nat, j < n.toNatClampNeg → F.heap[H.size + 1 + j]? = some (vp_cell cy z) := fun j hj => by
    have := Jvm.Free.Multi.fill_inner (T.setVm vm₁) cA cy n.toNatClampNeg k.toNatClampNeg (defaultValue ty) n.toNatClampNeg j hj
    rw [hF, hTh, hz] at this
    exact this
  have hout : Jvm.Free.Multi.outerC cA n.toNatClampNeg H.size n.toNatClampNeg = vp_cell cA (n.toNatClampNeg, .inr (.inr (.inr (.inr (fun i => if i < n.toNatClampNeg then some (H.size + 1 + i) else none))))) := by
    rw [vp_cell_q]
    exact vr_outer cA n.toNatClampNeg H.size n.toNatClampNeg
  rw [hout] at f2
  have hlt : ∀ a, a ∈ L → a < H.size := fun a ha => by
    obtain ⟨k9, hk9⟩ := va_pl_get (X := X) (f := f) ha
    exact (hP k9 _ hk9).lt
  have hnl : ∀ i : Nat, i < n.toNatClampNeg → H.size + 1 + i ∉ L := fun i _ h => by
    have := hlt _ h
    omega
  have hnm : ∀ a, a ∈ (List.range n.toNatClampNeg).map (fun i => H.size + 1 + i) → a ∉ L := fun a ha h => by
    obtain ⟨i, -, rfl⟩ := List.mem_map.mp ha
    have := hlt _ h
    omega
  have hP0 : va_P D cl (X ++ va_pl L f) F.heap := hP.kept (fun k9 x hx => hold x.1 ((hP k9 x hx).lt))
  have hP1 : va_P D cl ((X ++ va_pl L f) ++ [(H.size, .inl (cA, n.toNatClampNeg, .inr (.inr (.inr (.inr (fun i => if i < n.toNatClampNeg then some (H.size + 1 + i) else none))))))]) F.heap := hP0.app (fun k9 x hx => by
    have h0 : k9 < 1 := (List.getElem?_eq_some_iff.mp hx).1
    rw [show k9 = 0 by omega] at hx
    cases hx
    exact f2)
  have hP2 : va_P D cl (((X ++ va_pl L f) ++ [(H.size, .inl (cA, n.toNatClampNeg, .inr (.inr (.inr (.inr (fun i => if i < n.toNatClampNeg then some (H.size + 1 + i) else none))))))]) ++ ((List.range n.toNatClampNeg).map (fun i => H.size + 1 + i)).map (fun a => (a, .inl (cy, z)))) F.heap := hP1.app (fun k9 x hx => by
    obtain ⟨a, ha, rfl⟩ := List.mem_map.mp (List.mem_of_getElem? hx)
    obtain ⟨i, hi, rfl⟩ := List.mem_map.mp ha
    exact hrow i (List.mem_range.mp hi))
  have hD2 : va_D A (((X ++ va_pl L f) ++ [(H.size, .inl (cA, n.toNatClampNeg, .inr (.inr (.inr (.inr (fun i => if i < n.toNatClampNeg then some (H.size + 1 + i) else none))))))]) ++ ((List.range n.toNatClampNeg).map (fun i => H.size + 1 + i)).map (fun a => (a, .inl (cy, z)))) := by
    have hD1 := hD.push (e := .inl (cA, n.toNatClampNeg, .inr (.inr (.inr (.inr (fun i => if i < n.toNatClampNeg then some (H.size + 1 + i) else none)))))) hP rfl (hA _ hS.1)
    generalize hW1 : (X ++ va_pl L f) ++ [(H.size, .inl (cA, n.toNatClampNeg, .inr (.inr (.inr (.inr (fun i => if i < n.toNatClampNeg then some (H.size + 1 + i) else none))))))] = W1 at hD1 hP1 ⊢
    have hle : ∀ (k9 : Nat) (x : Nat × va_E), W1[k9]? = some x → x.1 ≤ H.size := fun k9 x hx => by
      rw [← hW1] at hx
      by_cases hl : k9 < (X ++ va_pl L f).length
      · rw [List.getElem?_append_left hl] at hx
        exact Nat.le_of_lt ((hP k9 x hx).lt)
      · rw [List.getElem?_append_right (by omega)] at hx
        have h0 : k9 - (X ++ va_pl L f).length < 1 := (List.getElem?_eq_some_iff.mp hx).1
        rw [show k9 - (X ++ va_pl L f).length = 0 by omega] at hx
        cases hx
        exact Nat.le_refl _
    have hr : ∀ (k9 : Nat) (x : Nat × va_E), (((List.range n.toNatClampNeg).map (fun i => H.size + 1 + i)).map (fun a => ((a, .inl (cy, z)) : Nat × va_E)))[k9]? = some x → x.1 = H.size + 1 + k9 := fun k9 x hx => by
      rw [List.getElem?_map, List.getElem?_map] at hx
      by_cases h9 : k9 < n.toNatClampNeg
      · rw [List.getElem?_range h9] at hx
        cases hx
        rfl
      · have hn0 : (List.range n.toNatClampNeg)[k9]? = none := List.getElem?_eq_none (by rw [List.length_range]; omega)
        rw [hn0] at hx
        cases hx
    refine ⟨fun i j x y hi hj hxy => ?_, fun k9 x hx => ?_⟩
    · by_cases h1 : i < W1.length <;> by_cases h2 : j < W1.length
      · rw [List.getElem?_append_left h1] at hi
        rw [List.getElem?_append_left h2] at hj
        exact hD1.1 i j x y hi hj hxy
      · rw [List.getElem?_append_left h1] at hi
        rw [List.getElem?_append_right (by omega)] at hj
        have := hle _ _ hi
        have := hr _ _ hj
        omega
      · rw [List.getElem?_append_right (by omega)] at hi
        rw [List.getElem?_append_left h2] at hj
        have := hle _ _ hj
        have := hr _ _ hi
        omega
      · rw [List.getElem?_append_right (by omega)] at hi hj
        have := hr _ _ hi
        have := hr _ _ hj
        omega
    · by_cases h1 : k9 < W1.length
      · rw [List.getElem?_append_left h1] at hx
        exact hD1.2 k9 x hx
      · rw [List.getElem?_append_right (by omega)] at hx
        have := hr _ _ hx
        exact hA _ (by have := hS.1; omega)
  have hAr : ArrOfT s cA (.array ty) := fun N9 z9 => by
    obtain ⟨-, k9, hk9, cm9, hkk9⟩ := (hO 0 0 0).1
    exact ⟨(fun q hq => by cases hq), k9, hk9, cm9, hkk9⟩
  have hK2 : va_K D cl (tys ++ [(cA, .array ty)]) s := ⟨hK.1, fun k9 x hx => by
    by_cases hl : k9 < tys.length
    · rw [List.getElem?_append_left hl] at hx
      exact hK.2 k9 x hx
    · rw [List.getElem?_append_right (by omega)] at hx
      have h0 : k9 - tys.length < 1 := (List.getElem?_eq_some_iff.mp hx).1
      rw [show k9 - tys.length = 0 by omega] at hx
      cases hx
      exact ⟨hAr, fA⟩⟩
  obtain ⟨t, a1, b1⟩ := kk H.size (fun i => H.size + 1 + i) cA F.heap (fun i j _ _ h => by have h9 : H.size + 1 + i = H.size + 1 + j := h; omega) hnl hK2 (by rw [← vr_rows hnm]; exact vr_lay hP2) (by rw [← vr_rows hnm]; exact vr_layD hD2) ⟨by rw [f1]; have := hS.1; omega, fun x h1 h2 => (hold x (Nat.lt_of_lt_of_le h1 hS.1)).trans (hS.2.1 x h1 h2), hS.2.2⟩ F rfl X'
  refine ⟨t, step t ?_, b1⟩
  have e : T.heap.size = H.size := by rw [hT]
  rw [e]
  exact a1
end VGM
/-! MAKING: what the makers of objects do; a new cell stands at the end of the list -/
def hw_ad (ad : Nat → Nat) (ws : va_W) : Prop := ∀ (j : Nat) (q : Nat × va_E), ws[j]? = some q → ad j = q.1
def hw_UA (D : va_G) (cI cG cZ : ClassId) (B : Nat) (w0 : va_W) (U : State) : Prop := hw_U D cI cG cZ B w0 U ∧ B ≤ U.heap.size ∧ va_AOA .int U
theorem hw_blindA {D : va_G} {cI cG cZ : ClassId} {B : Nat} {w0 : va_W} {av : List Value} : FrameBlind (va_Pc av (hw_UA D cI cG cZ B w0)) := fun a U g mk q => ⟨q.1, (hw_blind (D := D) (cI := cI) (cG := cG) (cZ := cZ) (B := B) (w0 := w0) a U g mk ⟨q.1, q.2.1⟩).2, q.2.2.1, va_AOA.moved (u := U) (U := U.calling g mk a) (Vm.Alike.refl U.vm) q.2.2.2⟩
theorem hs_push {D : va_G} {cl : List vw_C} {A : Nat → Prop} {ws : va_W} {H : Heap} {x : Nat × va_E} {n : Nat} (hP : va_P D cl (ws ++ [x]) H) (hD : va_D A (ws ++ [x])) (hn : ws.length = n) : ∃ w1 : va_W, va_P D cl w1 H ∧ va_D A w1 ∧ w1.length = n + 1 ∧ (∀ j : Nat, j < n → w1[j]? = ws[j]?) ∧ w1[n]? = some x := by
  subst hn
  exact ⟨ws ++ [x], hP, hD, by simp, fun j hj => List.getElem?_append_left hj, by simp⟩
theorem hs_lt {ws : va_W} {j : Nat} {q : Nat × va_E} (h : ws[j]? = some q) : j < ws.length := (List.getElem?_eq_some_iff.mp h).1
/-- a store at one place: the addresses stay -/
theorem hw_ad.set {ad : Nat → Nat} {ws w1 : va_W} {k h : Nat} {e e1 : va_E} (m : ws[k]? = some (h, e)) (m1 : w1[k]? = some (h, e1)) (ke : ∀ j : Nat, j ≠ k → w1[j]? = ws[j]?) (a : hw_ad ad w1) : hw_ad ad ws := by
  intro j q hq
  by_cases hj : j = k
  · subst hj
    rw [m] at hq
    cases hq
    exact a _ (h, e1) m1
  · exact a j q ((ke j hj).trans hq)
theorem hw_ad.push {ad : Nat → Nat} {ws w1 : va_W} {n : Nat} (hn : ws.length = n) (ke : ∀ j : Nat, j < n → w1[j]? = ws[j]?) (a : hw_ad ad w1) : hw_ad ad ws := fun j q hq => a j q ((ke j (by rw [← hn]; exact hs_lt hq)).trans hq)
/-- behind a maker: its own cell keeps its address -/
theorem hw_ad.made {ad : Nat → Nat} {ws w1 : va_W} {k h : Nat} {e : va_E} (hn : ws.length = k + 1) (m : ws[k]? = some (h, e)) (m1 : ∃ e1, w1[k]? = some (h, e1)) (ke : ∀ j : Nat, j < k → w1[j]? = ws[j]?) (a : hw_ad ad w1) : hw_ad ad ws := by
  intro j q hq
  have hl := hs_lt hq
  by_cases hj : j = k
  · subst hj
    rw [m] at hq
    cases hq
    obtain ⟨e1, h1⟩ := m1
    exact a _ (h, e1) h1
  · exact a j q ((ke j (by omega)).trans hq)
section HWM
variable {p : Program} {l : Launch} {e : Env} {R : Room} {s : State} {m : MethodId} {args : Array Value} {below : List Frame} {meth : Method} {c : Code} {H : Heap} {locs : List Loc} {cells slots : Nat} {Q : State → Prop}
variable {cc : ByteArray} {pc : Nat} {ls : Array Slot} {rest st0 : List Value} {D : va_G} {cl : List vw_C} {A : Nat → Prop} {tys : List (ClassId × FieldType)} {ws w0 : va_W} {H0 : Heap} {B : Nat} {cI cG cZ : ClassId}
theorem hw_goA {av : List Value} (hP : va_P D classes w0 H) (hD : va_D (fun q : Nat => B ≤ q) w0) (hK : va_K D classes [(cI, .int), (cG, .array .int), (cZ, .boolean)] s) (hN : hw_N s) (hS : va_S (fun q : Nat => B ≤ q) H0 H locs) (hB : B ≤ H0.size) (hO : va_AOA .int s) : ∀ U : State, U.heap = H → s.WarmedH U.vm → va_Pc av (hw_UA D cI cG cZ B w0) av.toArray U := fun U hU hW => ⟨rfl, (hw_go (av := av) hP hD hK hN U hU hW).2, by rw [hU]; exact Nat.le_trans hB hS.1, va_AOA.moved hW.alike hO⟩
theorem hw_newa (hexec : p.tables.exec = Jvm.exec) (hb : c.code = cc) {atype : ArrayType} (harr : (Cond.arrayClass (newarray.typeOf atype)).before args s = true) {ty : FieldType} (hty : newarray.typeOf atype = ty) (hK : va_K D cl tys s) (hP : va_P D cl ws H) (hD : va_D A ws) (hS : va_S A H0 H locs) (hA : ∀ q, H0.size ≤ q → A q) (t0 : Nat) {cA0 : ClassId} (ht : tys[t0]? = some (cA0, ty)) (hra : ∀ c0, va_RA s c0 ty → s.vm.findClass ("[" ++ ty.toString) = some c0)
    {n : Int32} {N' : Nat} (ha : ∀ cA : ClassId, vp_cell cA (N', .inl (fun _ => 0)) = arrV cA N' (fun _ => defaultValue ty)) (hn : ¬ n < 0) (hN : n.toNatClampNeg = N') (hbytes : N' * componentBytes ty ≤ 536870912) (hcells : cells + 1 ≤ R.cells) (hslots : slots + N' ≤ R.slots) (hdg : decode cc pc = .ok (.newarray atype, 2))
    (kk : ∀ (q : Nat) (H1 : Heap), va_P D cl (ws ++ [(q, .inl (cA0, N', .inl (fun _ => 0)))]) H1 → va_D A (ws ++ [(q, .inl (cA0, N', .inl (fun _ => 0)))]) → va_S A H0 H1 locs → W p l e R s m args below meth c H1 locs (cells + 1) (slots + N') Q (F0 m (pc + 2) ls (.ref q :: rest))) : W p l e R s m args below meth c H locs cells slots Q (F0 m pc ls (.int n :: rest)) := by
  refine va_newa hexec hb harr hty hK hP hD hS hA ha hn hN hbytes hcells hslots hdg (fun q cA H1 hK1 hP1 hD1 hS1 => ?_)
  have h1 := hra cA (hK1.2 tys.length (cA, ty) (by simp)).2
  have h0 := hra cA0 (hK.2 t0 _ ht).2
  have e1 : cA = cA0 := Option.some.inj (h1.symm.trans h0)
  subst e1
  exact kk q H1 hP1 hD1 hS1
theorem hw_cm {mc ms : Nat} {a : Array Value} {PP : va_W → Prop} (hr : va_Run p l e R s m args below meth c H locs cells slots mc ms (F0 m pc ls st0) rest (va_Qv (fun (w1 : va_W) => PP w1) (hw_B D B) (fun q : Nat => B ≤ q) a) (fun q : Nat => B ≤ q)) (hS : va_S (fun q : Nat => B ≤ q) H0 H locs)
    (kk : ∀ (w1 : va_W) (H1 : Heap) (locs1 : List Loc), va_P D classes w1 H1 → va_D (fun q : Nat => B ≤ q) w1 → va_S (fun q : Nat => B ≤ q) H0 H1 locs1 → PP w1 → W p l e R s m args below meth c H1 locs1 (cells + mc) (slots + ms) Q (F0 m (pc + 3) ls rest)) : W p l e R s m args below meth c H locs cells slots Q (F0 m pc ls st0) :=
  va_callv hr hS (fun q _ h => h) (fun q h => h) (fun u t H1 locs1 ht hvm hpost hB hz hk hS1 => kk u H1 locs1 (by rw [← ht]; exact hB.1) hB.2 hS1 hpost)
end HWM
theorem hs_up2 {D : va_G} {cl : List vw_C} {A : Nat → Prop} {ws : va_W} {H : Heap} {q n : Nat} {e0 e : Nat × va_E} (hP : va_P D cl (ws.set q e) H) (hD : va_D A (ws.set q e)) (m : ws[q]? = some e0) (hn : ws.length = n) : ∃ w1 : va_W, va_P D cl w1 H ∧ va_D A w1 ∧ w1.length = n ∧ (∀ j : Nat, j ≠ q → w1[j]? = ws[j]?) ∧ w1[q]? = some e :=
  ⟨ws.set q e, hP, hD, by simp [hn], fun _ h => List.getElem?_set_ne (Ne.symm h), List.getElem?_set_self (List.getElem?_eq_some_iff.mp m).1⟩
section HWG
variable {p : Program} {l : Launch} {e : Env} {R : Room} {s : State} {m : MethodId} {args : Array Value} {below : List Frame} {meth : Method} {c : Code} {H : Heap} {locs : List Loc} {cells slots : Nat} {Q : State → Prop}
variable {cc : ByteArray} {pc : Nat} {ls : Array Slot} {rest : List Value} {D : va_G} {cl : List vw_C} {A : Nat → Prop} {ws : va_W} {H0 : Heap} {cI cG cZ : ClassId}
theorem hw_rows {ws : va_W} {x : Nat × va_E} {r : Nat → Nat} {f : Nat → va_E} {v : va_E} {n : Nat} (N' : Nat) (hn : ws.length = n) : ((ws ++ [x]) ++ va_pl ([] ++ (List.range N').map r) (vr_up f ((List.range N').map r) v)).length = n + 1 + N' ∧ (∀ j : Nat, j < n → ((ws ++ [x]) ++ va_pl ([] ++ (List.range N').map r) (vr_up f ((List.range N').map r) v))[j]? = ws[j]?) ∧ ((ws ++ [x]) ++ va_pl ([] ++ (List.range N').map r) (vr_up f ((List.range N').map r) v))[n]? = some x ∧ ∀ i : Nat, i < N' → ((ws ++ [x]) ++ va_pl ([] ++ (List.range N').map r) (vr_up f ((List.range N').map r) v))[n + 1 + i]? = some (r i, v) := by
  subst hn
  refine ⟨by simp [va_pl]; omega, fun j hj => ?_, ?_, fun i hi => ?_⟩
  · rw [List.getElem?_append_left (by simp; omega), List.getElem?_append_left hj]
  · rw [List.getElem?_append_left (by simp)]
    simp
  · rw [List.getElem?_append_right (by simp)]
    have e1 : ws.length + 1 + i - (ws ++ [x]).length = i := by simp
    rw [e1]
    simp only [va_pl, List.nil_append, List.map_map, List.getElem?_map, List.getElem?_range hi, Option.map_some, Function.comp]
    rw [vr_up_in (List.mem_map.mpr ⟨i, List.mem_range.mpr hi, rfl⟩)]
theorem hw_mna (hexec : p.tables.exec = Jvm.exec) (hb : c.code = cc) {own : String} {index k : Nat} (hown : s.vm.findClass own = some m.cls) (hclink : (Cond.classLink own index ("[" ++ (FieldType.array .int).toString)).before args s = true) (hover : va_AOA .int s) (harr : (Cond.arrayClass .int).before args s = true)
    (hK : va_K D cl [(cI, .int), (cG, .array .int), (cZ, .boolean)] s) (hP : va_P D cl ws H) (hD : va_D A ws) (hS : va_S A H0 H locs) (hA : ∀ q, H0.size ≤ q → A q) (hn : ws.length = k) (hcells : cells + (1 + 30) ≤ R.cells) (hslots : slots + (30 + 30 * 4) ≤ R.slots) (hdg : decode cc pc = .ok (.multianewarray index 2, 4))
    (kk : ∀ (q : Nat) (w1 : va_W) (H1 : Heap), va_P D cl w1 H1 → va_D A w1 → va_S A H0 H1 locs → w1.length = k + 1 + 30 → (∀ j : Nat, j < k → w1[j]? = ws[j]?) → (∀ ad : Nat → Nat, hw_ad ad w1 → wc_grid cI cG ad k 30 4 (fun _ _ => 0) w1) → (∃ e1, w1[k]? = some (q, e1)) → W p l e R s m args below meth c H1 locs (cells + 1 + 30) (slots + 30 + 30 * 4) Q (F0 m (pc + 4) ls (.ref q :: rest))) : W p l e R s m args below meth c H locs cells slots Q (F0 m pc ls (.int 4 :: .int 30 :: rest)) := by
  have hcy : s.vm.findClass (FieldType.array .int).toString = some cI := (hK.2 0 _ rfl).2
  have e0 : ws ++ va_pl [] (fun _ => (.inr (0, []) : va_E)) = ws := by simp [va_pl]
  refine va_mna (X := ws) (L := []) (f := fun _ => .inr (0, [])) (N' := 30) (K' := 4) (z := (4, .inl (fun _ => 0))) hexec hb hown hclink hover harr hcy hK (by rw [e0]; exact hP) (by rw [e0]; exact hD) hS hA (by decide) (by decide) (by decide) (by decide) (by decide) (by decide) (by decide) (by decide) (by decide) hcells hslots (fun c0 => ?_) hdg (fun q r cA H1 hinj hnl hK1 hP1 hD1 hS1 => ?_)
  · rw [vp_cell_i, ← arrV_new]
    rfl
  · have h1 : s.vm.findClass ("[" ++ (FieldType.array .int).toString) = some cA := (hK1.2 3 (cA, .array .int) rfl).2
    have h0 : s.vm.findClass ("[" ++ (FieldType.array .int).toString) = some cG := (hK.2 1 _ rfl).2
    have e1 : cA = cG := Option.some.inj (h1.symm.trans h0)
    subst e1
    obtain ⟨a1, a2, a3, a4⟩ := hw_rows (ws := ws) (x := (q, .inl (cA, 30, .inr (.inr (.inr (.inr (fun i => if i < 30 then some (r i) else none))))))) (r := r) (f := fun _ => (.inr (0, []) : va_E)) (v := .inl (cI, 4, .inl (fun _ => 0))) 30 hn
    refine kk q _ H1 hP1 hD1 hS1 a1 a2 (fun ad a => ⟨?_, fun j hj => ?_⟩) ⟨_, a3⟩
    · have eq0 : ad k = q := a _ _ a3
      have eqf : (fun j : Nat => if j < 30 then some (ad (k + 1 + j)) else none) = (fun i : Nat => if i < 30 then some (r i) else none) := by
        funext j
        by_cases hj : j < 30
        · have := a _ _ (a4 j hj)
          simp only at this
          rw [if_pos hj, if_pos hj, this]
        · rw [if_neg hj, if_neg hj]
      rw [eq0, eqf]
      exact a3
    · have := a _ _ (a4 j hj)
      simp only at this
      rw [this]
      exact a4 j hj
end HWG
theorem hw_ofO {s : State} (h : va_AOA .int s) : ∃ (c : ClassId) (k : Class) (comp : ClassId), s.vm.findClass ("[" ++ (FieldType.array .int).toString) = some c ∧ s.vm.classes[c]? = some k ∧ k.kind = .array comp (.array .int) := by
  unfold va_AOA at h
  simp only [Cond.before, Cond.holds, Cond.value, beq_iff_eq] at h
  cases hc : s.vm.findClass (FieldType.array .int).toString with
  | none => simp [hc] at h
  | some comp =>
    simp only [hc, Option.bind_some, Option.bind_eq_some_iff, Option.map_eq_some_iff] at h
    obtain ⟨c, hi, k, hk, hb⟩ := h
    cases hkind : k.kind with
    | array component ty =>
      rw [hkind] at hb
      simp at hb
      exact ⟨c, k, component, hb.2, hk, by rw [hkind, hb.1]⟩
    | _ => rw [hkind] at hb; simp at hb
theorem hq_lt {k a b : Nat} (h : a < b) : k + a < k + b := by omega
theorem hq_k {k b : Nat} (h : 0 < b) : k < k + b := by omega
theorem hq_fr {k a n b j : Nat} (h2 : j < k + a + n) (h : a + n ≤ b) : j < k + b := by omega
theorem hq_ne {k a : Nat} (h : 0 < a) : k + a ≠ k := by omega
theorem hq_nf {k a j : Nat} (h1 : k + a ≤ j) (h : 0 < a) : j ≠ k := by omega
theorem hq_j {k j : Nat} (b : Nat) (h : j < k) : j < k + b := by omega
theorem hq_g {k a n b j : Nat} (h2 : j < k + a + n + 1) (h : a + n + 1 ≤ b) : j < k + b := by omega
def i0_Rk : T_Rk := (fun _ => 0, fun _ => 0, 0, 0, 0)
def i0_Ch : T_Ch := (fun _ => 0, 0, 0)
def i0_Li : T_Li := (fun _ => 0, fun _ => 0, fun _ => 0, fun _ => 0, fun _ => 0, 0)
def i0_Wa : T_Wa := (i0_Rk, i0_Rk, fun _ => 0, 0)
def i0_Do : T_Do := (fun _ _ => 0, fun _ => 0, fun _ => 0, 0)
def i0_Gr : T_Gr := (i0_Li, i0_Wa, i0_Ch, i0_Rk, (-2), 0, 0)
def i0_Nd : T_Nd := (i0_Do, i0_Gr, i0_Rk, i0_Rk, fun _ => 0, fun _ => 0)
def i0_Mo : T_Mo := (fun _ => 0, fun _ => 0, fun _ => 0, fun _ => 0, fun _ => 0, fun _ => 0, fun _ => 0, fun _ => 0, (-1), 0, fun _ => 0, fun _ => 0, fun _ => 0, fun _ => 0, fun _ => 0, fun _ => 0, fun _ => 0, fun _ => 0, fun _ => 0, 0, 0, 0, fun _ => 0, fun _ => 0, fun _ => 0, 0, 0, 0)
