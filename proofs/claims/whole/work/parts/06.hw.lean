/-! CONTRACTS over the world by places -/
def hw_C (p : Program) (s : State) (m : MethodId) (meth : Method) (c : Code) (cc : ByteArray) (nL : Nat) (args : Array Value) (own : String) (ret : Option FieldType) : Prop := p.tables.exec = Jvm.exec ∧ c.code = cc ∧ meth.sig.returnType = ret ∧ c.maxLocals = nL ∧ s.vm.findClass own = some m.cls ∧ (∀ w ∈ hw_G, w.before args s = true) ∧ meth.locks = false
def hw_N (U : State) : Prop := ∀ w ∈ hw_NW, va_Nw w U
theorem hw_isN_on {w : Cond} (h : hw_isN w = true) : w.onTables = true := by
  cases w <;> first | rfl | (exfalso; simp [hw_isN] at h; done)
theorem hw_isN_warm {w : Cond} (h : hw_isN w = true) {s U : State} (hW : s.WarmedH U.vm) (hZ : va_Nw w s) : va_Nw w U := by
  cases w <;> first | exact va_Nw.warmF hW hZ | exact va_Nw.warmM hW hZ | (exfalso; simp [hw_isN] at h; done)
theorem hw_NW_is : ∀ w ∈ hw_NW, hw_isN w = true := fun _ h => (List.mem_filter.mp h).2
theorem hw_N.warm {s U : State} (h : hw_N s) (hW : s.WarmedH U.vm) : hw_N U := fun w hw => hw_isN_warm (hw_NW_is w hw) hW (h w hw)
def hw_B (D : va_G) (B : Nat) (w1 : va_W) (t : State) : Prop := va_P D classes w1 t.heap ∧ va_D (fun q : Nat => B ≤ q) w1
def hw_Br (D : va_G) (B a0 : Nat) (w1 : va_W) (a : Nat) (t : State) : Prop := a = a0 ∧ va_P D classes w1 t.heap ∧ va_D (fun q : Nat => B ≤ q) w1
def hw_U (D : va_G) (cI cG cZ : ClassId) (B : Nat) (w0 : va_W) (U : State) : Prop := va_P D classes w0 U.heap ∧ va_D (fun q : Nat => B ≤ q) w0 ∧ va_K D classes [(cI, .int), (cG, .array .int), (cZ, .boolean)] U ∧ hw_N U
theorem hw_blind {D : va_G} {cI cG cZ : ClassId} {B : Nat} {w0 : va_W} {av : List Value} : FrameBlind (va_Pc av (hw_U D cI cG cZ B w0)) := fun a U g mk q => ⟨q.1, q.2.1, q.2.2.1, va_K.moved (u := U) (U := U.calling g mk a) (Vm.Alike.refl U.vm) q.2.2.2.1, fun w h => va_Nw.same (u := U) (U := U.calling g mk a) (hw_isN_on (hw_NW_is w h)) rfl (q.2.2.2.2 w h)⟩
section HWC
variable {p : Program} {l : Launch} {e : Env} {R : Room} {s : State} {m : MethodId} {args : Array Value} {below : List Frame} {meth : Method} {c : Code} {H : Heap} {locs : List Loc} {Q : State → Prop}
variable {cells slots : Nat} {pc : Nat} {ls : Array Slot} {rest st0 : List Value} {a : Array Value} {H0 : Heap} {D : va_G} {B : Nat} {w0 : va_W} {cI cG cZ : ClassId}
theorem hw_go {av : List Value} (hP : va_P D classes w0 H) (hD : va_D (fun q : Nat => B ≤ q) w0) (hK : va_K D classes [(cI, .int), (cG, .array .int), (cZ, .boolean)] s) (hN : hw_N s) : ∀ U : State, U.heap = H → s.WarmedH U.vm → va_Pc av (hw_U D cI cG cZ B w0) av.toArray U := fun U hU hW => ⟨rfl, by rw [hU]; exact hP, hD, va_K.moved hW.alike hK, hN.warm hW⟩
theorem hw_ci {r0 : Int32} {PP : va_W → Prop} (hr : va_Run p l e R s m args below meth c H locs cells slots 0 0 (F0 m pc ls st0) rest (va_Qi (fun (r1 : Int32) (w1 : va_W) => r1 = r0 ∧ PP w1) (hw_B D B) (fun q : Nat => B ≤ q) a) (fun q : Nat => B ≤ q)) (hS : va_S (fun q : Nat => B ≤ q) H0 H locs)
    (kk : ∀ (w1 : va_W) (H1 : Heap) (locs1 : List Loc), va_P D classes w1 H1 → va_D (fun q : Nat => B ≤ q) w1 → va_S (fun q : Nat => B ≤ q) H0 H1 locs1 → PP w1 → W p l e R s m args below meth c H1 locs1 cells slots Q (F0 m (pc + 3) ls (.int r0 :: rest))) : W p l e R s m args below meth c H locs cells slots Q (F0 m pc ls st0) := by
  refine va_calli hr hS (fun q _ h => h) (fun q h => h) (fun r u t H1 locs1 ht hvm hpost hB hz hk hS1 => ?_)
  obtain ⟨h1, hpp⟩ := hpost
  subst h1
  exact kk u H1 locs1 (by rw [← ht]; exact hB.1) hB.2 hS1 hpp
theorem hw_ci0 {r0 : Int32} (hr : va_Run p l e R s m args below meth c H locs cells slots 0 0 (F0 m pc ls st0) rest (va_Qi (fun (r1 : Int32) (w1 : va_W) => r1 = r0 ∧ w1 = w0) (hw_B D B) (fun q : Nat => B ≤ q) a) (fun q : Nat => B ≤ q)) (hS : va_S (fun q : Nat => B ≤ q) H0 H locs)
    (kk : ∀ (H1 : Heap) (locs1 : List Loc), va_P D classes w0 H1 → va_D (fun q : Nat => B ≤ q) w0 → va_S (fun q : Nat => B ≤ q) H0 H1 locs1 → W p l e R s m args below meth c H1 locs1 cells slots Q (F0 m (pc + 3) ls (.int r0 :: rest))) : W p l e R s m args below meth c H locs cells slots Q (F0 m pc ls st0) :=
  hw_ci (PP := fun w1 => w1 = w0) hr hS (fun w1 H1 locs1 hP hD hS1 e => by subst e; exact kk H1 locs1 hP hD hS1)
theorem hw_cv {PP : va_W → Prop} (hr : va_Run p l e R s m args below meth c H locs cells slots 0 0 (F0 m pc ls st0) rest (va_Qv (fun (w1 : va_W) => PP w1) (hw_B D B) (fun q : Nat => B ≤ q) a) (fun q : Nat => B ≤ q)) (hS : va_S (fun q : Nat => B ≤ q) H0 H locs)
    (kk : ∀ (w1 : va_W) (H1 : Heap) (locs1 : List Loc), va_P D classes w1 H1 → va_D (fun q : Nat => B ≤ q) w1 → va_S (fun q : Nat => B ≤ q) H0 H1 locs1 → PP w1 → W p l e R s m args below meth c H1 locs1 cells slots Q (F0 m (pc + 3) ls rest)) : W p l e R s m args below meth c H locs cells slots Q (F0 m pc ls st0) :=
  va_callv hr hS (fun q _ h => h) (fun q h => h) (fun u t H1 locs1 ht hvm hpost hB hz hk hS1 => kk u H1 locs1 (by rw [← ht]; exact hB.1) hB.2 hS1 hpost)
theorem hw_cr {a0 : Nat} {PP : va_W → Prop} (hr : va_Run p l e R s m args below meth c H locs cells slots 0 0 (F0 m pc ls st0) rest (va_Qr (fun (w1 : va_W) => PP w1) (hw_Br D B a0) (fun q : Nat => B ≤ q) a) (fun q : Nat => B ≤ q)) (hS : va_S (fun q : Nat => B ≤ q) H0 H locs)
    (kk : ∀ (w1 : va_W) (H1 : Heap) (locs1 : List Loc), va_P D classes w1 H1 → va_D (fun q : Nat => B ≤ q) w1 → va_S (fun q : Nat => B ≤ q) H0 H1 locs1 → PP w1 → W p l e R s m args below meth c H1 locs1 cells slots Q (F0 m (pc + 3) ls (.ref a0 :: rest))) : W p l e R s m args below meth c H locs cells slots Q (F0 m pc ls st0) := by
  refine va_callr hr hS (fun q _ h => h) (fun q h => h) (fun u a1 t H1 locs1 ht hvm hpost hB hz hk hS1 => ?_)
  obtain ⟨h1, hB1, hB2⟩ := hB
  subst h1
  exact kk u H1 locs1 (by rw [← ht]; exact hB1) hB2 hS1 hpost
theorem hw_cr0 {a0 : Nat} (hr : va_Run p l e R s m args below meth c H locs cells slots 0 0 (F0 m pc ls st0) rest (va_Qr (fun (w1 : va_W) => w1 = w0) (hw_Br D B a0) (fun q : Nat => B ≤ q) a) (fun q : Nat => B ≤ q)) (hS : va_S (fun q : Nat => B ≤ q) H0 H locs)
    (kk : ∀ (H1 : Heap) (locs1 : List Loc), va_P D classes w0 H1 → va_D (fun q : Nat => B ≤ q) w0 → va_S (fun q : Nat => B ≤ q) H0 H1 locs1 → W p l e R s m args below meth c H1 locs1 cells slots Q (F0 m (pc + 3) ls (.ref a0 :: rest))) : W p l e R s m args below meth c H locs cells slots Q (F0 m pc ls st0) :=
  hw_cr (PP := fun w1 => w1 = w0) hr hS (fun w1 H1 locs1 hP hD hS1 e => by subst e; exact kk H1 locs1 hP hD hS1)
variable {cc : ByteArray}
theorem hw_aald {cl : List vw_C} {tys : List (ClassId × FieldType)} {ws : va_W} {b : Nat} (hexec : p.tables.exec = Jvm.exec) (hb : c.code = cc) (hK : va_K D cl tys s) (hP : va_P D cl ws H) (q0 t0 : Nat) {cA : ClassId} {n : Nat} {f : Nat → Option Nat} {ty : FieldType} (ha : ws[q0]? = some (b, .inl (cA, n, .inr (.inr (.inr (.inr f)))))) (ht : tys[t0]? = some (cA, ty)) (hty : ty.isReference = true) {i : Int32} (hin : vp_in i n) (hdg : decode cc pc = .ok (.aaload, 1)) {r : Nat} (hr : f i.toNatClampNeg = some r)
    (kk : W p l e R s m args below meth c H locs cells slots Q (F0 m (pc + 1) ls (.ref r :: rest))) : W p l e R s m args below meth c H locs cells slots Q (F0 m pc ls (.int i :: .ref b :: rest)) := by
  have hlt : i.toNatClampNeg < n := Nat.not_le.mp fun q => hin (Or.inr q)
  exact W.aald (v := .ref r) hexec hb (hP q0 _ ha) ((hK.2 t0 _ ht).1 n (fun j => va_rf (f j))) hty (fun q => by cases q) (by show ¬ (i < 0 ∨ (arrV _ _ _).slots.size ≤ _); rw [arrV_size]; exact hin) (by show (arrV _ _ _).slots[_]? = _; rw [arrV_read _ _ hlt, hr]; rfl) rfl rfl hdg kk
end HWC
