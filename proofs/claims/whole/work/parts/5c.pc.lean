/-! PURE: the bits of a number, counted in fields -/
theorem pc_and (s a b : Nat) : a &&& b = 2 ^ s * ((a / 2 ^ s) &&& (b / 2 ^ s)) + ((a % 2 ^ s) &&& (b % 2 ^ s)) := by
  rw [← Nat.and_div_two_pow, ← Nat.and_mod_two_pow, Nat.div_add_mod]
def pc_S (B : Nat) : Nat → Nat → Nat
  | 0, _ => 0
  | t + 1, x => x % B + x / B % B + B * B * pc_S B t (x / (B * B))
def pc_m (B : Nat) : Nat → Nat
  | 0 => 0
  | t + 1 => (B - 1) + B * B * pc_m B t
theorem pc_field (s a q u : Nat) (hu : u = 2 ^ s - 1) : a &&& (u + 2 ^ s * 2 ^ s * q) = a % 2 ^ s + 2 ^ s * 2 ^ s * ((a / (2 ^ s * 2 ^ s)) &&& q) := by
  have hp : 0 < 2 ^ s := Nat.two_pow_pos s
  have e : 2 ^ s * 2 ^ s = 2 ^ (s + s) := (Nat.pow_add 2 s s).symm
  have hle : 2 ^ s ≤ 2 ^ s * 2 ^ s := Nat.le_mul_of_pos_left _ hp
  have hlt : u < 2 ^ (s + s) := by rw [← e]; omega
  rw [pc_and (s + s) a, e]
  rw [Nat.add_mul_div_left _ _ (Nat.two_pow_pos _), Nat.div_eq_of_lt hlt, Nat.zero_add, Nat.add_mul_mod_self_left, Nat.mod_eq_of_lt hlt, hu, Nat.and_two_pow_sub_one_eq_mod, ← e, Nat.mod_mul_left_mod, Nat.add_comm]
theorem pc_stage (s : Nat) : ∀ (t x : Nat), x < (2 ^ s * 2 ^ s) ^ t → (x &&& pc_m (2 ^ s) t) + ((x / 2 ^ s) &&& pc_m (2 ^ s) t) = pc_S (2 ^ s) t x ∧ x = (x &&& pc_m (2 ^ s) t) + 2 ^ s * ((x / 2 ^ s) &&& pc_m (2 ^ s) t) := by
  intro t
  induction t with
  | zero =>
    intro x hx
    have : x = 0 := by simpa using hx
    subst this
    simp [pc_m, pc_S]
  | succ t ih =>
    intro x hx
    have hp : 0 < 2 ^ s := Nat.two_pow_pos s
    have hx2 : x / (2 ^ s * 2 ^ s) < (2 ^ s * 2 ^ s) ^ t := by
      rw [Nat.div_lt_iff_lt_mul (Nat.mul_pos hp hp), ← Nat.pow_succ]
      exact hx
    obtain ⟨h1, h2⟩ := ih _ hx2
    rw [pc_m, pc_field s x _ _ rfl, pc_field s (x / 2 ^ s) _ _ rfl, pc_S, ← h1]
    have e : x / 2 ^ s / (2 ^ s * 2 ^ s) = x / (2 ^ s * 2 ^ s) / 2 ^ s := by
      rw [Nat.div_div_eq_div_mul, Nat.div_div_eq_div_mul, Nat.mul_comm]
    rw [e]
    generalize hA : x / (2 ^ s * 2 ^ s) &&& pc_m (2 ^ s) t = A at *
    generalize hC : x / (2 ^ s * 2 ^ s) / 2 ^ s &&& pc_m (2 ^ s) t = C at *
    constructor
    · rw [Nat.mul_add]
      omega
    · have hx3 : x = 2 ^ s * 2 ^ s * (x / (2 ^ s * 2 ^ s)) + x % (2 ^ s * 2 ^ s) := (Nat.div_add_mod _ _).symm
      have hm : x % (2 ^ s * 2 ^ s) = x % 2 ^ s + 2 ^ s * (x / 2 ^ s % 2 ^ s) := Nat.mod_mul
      rw [h2, Nat.mul_add] at hx3
      rw [hm] at hx3
      rw [Nat.mul_add]
      have e2 : 2 ^ s * (2 ^ s * 2 ^ s * C) = 2 ^ s * 2 ^ s * (2 ^ s * C) := by
        rw [← Nat.mul_assoc, Nat.mul_comm (2 ^ s) (2 ^ s * 2 ^ s), Nat.mul_assoc]
      rw [e2]
      omega
/-- the sum of the digits -/
def pc_ds (B : Nat) : Nat → Nat → Nat
  | 0, _ => 0
  | t + 1, x => x % B + pc_ds B t (x / B)
theorem pc_dsS {B : Nat} (hB : 2 ≤ B) : ∀ (t x : Nat), pc_ds (B * B) t (pc_S B t x) = pc_ds B (2 * t) x := by
  intro t
  induction t with
  | zero => intro x; rfl
  | succ t ih =>
    intro x
    have h1 : x % B < B := Nat.mod_lt _ (by omega)
    have h2 : x / B % B < B := Nat.mod_lt _ (by omega)
    have h3 : 2 * B ≤ B * B := Nat.mul_le_mul_right B hB
    have h4 : x % B + x / B % B < B * B := by omega
    rw [pc_S, pc_ds, Nat.add_mul_mod_self_left, Nat.mod_eq_of_lt h4, Nat.add_mul_div_left _ _ (by omega), Nat.div_eq_of_lt h4, Nat.zero_add, ih, show 2 * (t + 1) = 2 * t + 1 + 1 from rfl, pc_ds, pc_ds, Nat.div_div_eq_div_mul, Nat.add_assoc]
theorem pc_ds_last (x : Nat) : ∀ t y : Nat, pc_ds 2 (t + 1) y = pc_ds 2 t y + y / 2 ^ t % 2
  | 0, y => by simp [pc_ds]
  | t + 1, y => by
    rw [pc_ds, pc_ds_last x t (y / 2), pc_ds, Nat.div_div_eq_div_mul, Nat.pow_succ, Nat.mul_comm (2 ^ t) 2, Nat.add_assoc]
theorem pc_bits {M : Nat} {sn : Nat → Int32} : ∀ n : Nat, (∀ a, a < n → (M.testBit a = true ↔ sn a ≠ 0)) → pc_ds 2 n M = pd_cnt sn n
  | 0, _ => rfl
  | n + 1, h => by
    rw [pc_ds_last 0, pc_bits n (fun a ha => h a (Nat.lt_succ_of_lt ha)), pd_cnt]
    have h1 := h n (Nat.lt_succ_self n)
    rw [Nat.testBit_eq_decide_div_mod_eq, decide_eq_true_iff] at h1
    by_cases c : sn n = 0
    · rw [if_pos c]
      have : ¬ M / 2 ^ n % 2 = 1 := fun q => h1.mp q c
      omega
    · rw [if_neg c, h1.mpr c]
theorem pc_andI (a b : Nat) : nI a &&& nI b = nI (a &&& b) := by
  apply Int32.toBitVec_inj.mp
  show BitVec.ofNat 32 a &&& BitVec.ofNat 32 b = BitVec.ofNat 32 (a &&& b)
  apply BitVec.eq_of_getLsbD_eq
  intro i hi
  simp [BitVec.getLsbD_and, BitVec.getLsbD_ofNat, hi]
theorem pc_S_lt {B : Nat} (hB : 2 ≤ B) : ∀ (t x : Nat), pc_S B t x < (B * B) ^ t
  | 0, x => by simp [pc_S]
  | t + 1, x => by
    have h1 : x % B < B := Nat.mod_lt _ (by omega)
    have h2 : x / B % B < B := Nat.mod_lt _ (by omega)
    have h3 : 2 * B ≤ B * B := Nat.mul_le_mul_right B hB
    have h4 := pc_S_lt hB t (x / (B * B))
    have h5 : B * B * (pc_S B t (x / (B * B)) + 1) ≤ B * B * (B * B) ^ t := Nat.mul_le_mul_left _ h4
    rw [pc_S, Nat.pow_succ, Nat.mul_comm ((B * B) ^ t)]
    rw [Nat.mul_add, Nat.mul_one] at h5
    omega
def pc_le (B c : Nat) : Nat → Nat → Prop
  | 0, _ => True
  | t + 1, x => x % B ≤ c ∧ pc_le B c t (x / B)
theorem pc_leS {B c : Nat} (hB : 2 ≤ B) : ∀ (t x : Nat), pc_le B c (2 * t) x → pc_le (B * B) (2 * c) t (pc_S B t x) := by
  intro t
  induction t with
  | zero => intro x _; trivial
  | succ t ih =>
    intro x h
    rw [show 2 * (t + 1) = 2 * t + 1 + 1 from rfl] at h
    obtain ⟨g1, g2, g3⟩ := h
    have h1 : x % B < B := Nat.mod_lt _ (by omega)
    have h2 : x / B % B < B := Nat.mod_lt _ (by omega)
    have h3 : 2 * B ≤ B * B := Nat.mul_le_mul_right B hB
    have h4 : x % B + x / B % B < B * B := by omega
    rw [pc_S]
    refine ⟨?_, ?_⟩
    · rw [Nat.add_mul_mod_self_left, Nat.mod_eq_of_lt h4]
      omega
    · rw [Nat.add_mul_div_left _ _ (by omega), Nat.div_eq_of_lt h4, Nat.zero_add]
      rw [Nat.div_div_eq_div_mul] at g3
      exact ih _ g3
theorem pc_le2 : ∀ (t x : Nat), pc_le 2 1 t x
  | 0, _ => trivial
  | t + 1, x => ⟨by omega, pc_le2 t _⟩
theorem pc_u1 : (((1 : Int32).toUInt32 &&& Int32.toUInt32 31).toBitVec % 32).toNat = 1 := by decide
theorem pc_u2 : (((2 : Int32).toUInt32 &&& Int32.toUInt32 31).toBitVec % 32).toNat = 2 := by decide
theorem pc_u4 : (((4 : Int32).toUInt32 &&& Int32.toUInt32 31).toBitVec % 32).toNat = 4 := by decide
theorem pc_u8 : (((8 : Int32).toUInt32 &&& Int32.toUInt32 31).toBitVec % 32).toNat = 8 := by decide
theorem pc_u16 : (((16 : Int32).toUInt32 &&& Int32.toUInt32 31).toBitVec % 32).toNat = 16 := by decide
theorem pc_h1 (c W : Nat) (hc : c < 16) : (c + 16 * W) / 16 = W ∧ (c + 16 * W) % 16 = c := by omega
theorem pc_h2 (c d W : Nat) (hc : c < 16) (hd : d < 16) : (c + 16 * (d + 16 * W)) % 16 = c ∧ (c + 16 * (d + 16 * W)) / 256 = W := by omega
theorem pc_h3 (c W : Nat) (hc : c < 256) : (c + 256 * W) / 256 = W := by omega
theorem pc_h4 (c d W : Nat) (hc : c < 256) (hd : d < 256) : (c + 256 * (d + 256 * W)) / 65536 = W := by omega
theorem pc_h5 (a b c d e W : Nat) (h : a + c + (b + d) < 64) (he : e = a + c + (b + d)) : (a + c + 64 * W + (b + d)) % 64 = e := by omega
theorem pc_lastD (n0 n1 n2 n3 n4 n5 n6 n7 : Nat) (h0 : n0 ≤ 4) (h1 : n1 ≤ 4) (h2 : n2 ≤ 4) (h3 : n3 ≤ 4) (h4 : n4 ≤ 4) (h5 : n5 ≤ 4) (h6 : n6 ≤ 4) (h7 : n7 ≤ 4) {x : Nat} (hx : x = n0 + 16 * (n1 + 16 * (n2 + 16 * (n3 + 16 * (n4 + 16 * (n5 + 16 * (n6 + 16 * n7))))))) : ∃ y, (x + x / 16) &&& 252645135 = y ∧ y < 4294967296 ∧ ((y + y / 256) + (y + y / 256) / 65536) % 64 = n0 + (n1 + (n2 + (n3 + (n4 + (n5 + (n6 + n7)))))) ∧ y + y / 256 < 4294967296 := by
  have hq : x / 16 = n1 + 16 * (n2 + 16 * (n3 + 16 * (n4 + 16 * (n5 + 16 * (n6 + 16 * n7))))) := by
    rw [hx]; exact (pc_h1 n0 _ (by omega)).1
  have hz : x + x / 16 = (n0 + n1) + 16 * ((n1 + n2) + 16 * ((n2 + n3) + 16 * ((n3 + n4) + 16 * ((n4 + n5) + 16 * ((n5 + n6) + 16 * ((n6 + n7) + 16 * n7)))))) := by
    rw [hq, hx]; omega
  have e : (252645135 : Nat) = 15 + 2 ^ 4 * 2 ^ 4 * (15 + 2 ^ 4 * 2 ^ 4 * (15 + 2 ^ 4 * 2 ^ 4 * 15)) := rfl
  have f15 : ∀ a : Nat, a &&& 15 = a % 16 := fun a => Nat.and_two_pow_sub_one_eq_mod a 4
  have hy : (x + x / 16) &&& 252645135 = (n0 + n1) + 256 * ((n2 + n3) + 256 * ((n4 + n5) + 256 * (n6 + n7))) := by
    rw [hz, e, pc_field 4 _ _ 15 rfl, pc_field 4 _ _ 15 rfl, pc_field 4 _ _ 15 rfl, f15]
    have p0 := pc_h2 (n0 + n1) (n1 + n2) ((n2 + n3) + 16 * ((n3 + n4) + 16 * ((n4 + n5) + 16 * ((n5 + n6) + 16 * ((n6 + n7) + 16 * n7))))) (by omega) (by omega)
    have p1 := pc_h2 (n2 + n3) (n3 + n4) ((n4 + n5) + 16 * ((n5 + n6) + 16 * ((n6 + n7) + 16 * n7))) (by omega) (by omega)
    have p2 := pc_h2 (n4 + n5) (n5 + n6) ((n6 + n7) + 16 * n7) (by omega) (by omega)
    have p3 := pc_h1 (n6 + n7) n7 (by omega)
    simp only [Nat.reducePow, Nat.reduceMul]
    rw [p0.1, p0.2, p1.1, p1.2, p2.1, p2.2, p3.2]
  refine ⟨_, hy, by omega, ?_, ?_⟩
  · rw [pc_h3 _ _ (by omega)]
    have t : n0 + n1 + 256 * (n2 + n3 + 256 * (n4 + n5 + 256 * (n6 + n7))) + (n2 + n3 + 256 * (n4 + n5 + 256 * (n6 + n7))) = (n0 + n1 + (n2 + n3)) + 256 * ((n2 + n3 + (n4 + n5)) + 256 * ((n4 + n5 + (n6 + n7)) + 256 * (n6 + n7))) := by omega
    rw [t, pc_h4 _ _ _ (by omega) (by omega)]
    have t2 : (n0 + n1 + (n2 + n3)) + 256 * ((n2 + n3 + (n4 + n5)) + 256 * ((n4 + n5 + (n6 + n7)) + 256 * (n6 + n7))) + (n4 + n5 + (n6 + n7) + 256 * (n6 + n7)) = (n0 + n1) + (n2 + n3) + 64 * (4 * ((n2 + n3 + (n4 + n5)) + 256 * ((n4 + n5 + (n6 + n7)) + 256 * (n6 + n7))) + 4 * (n6 + n7)) + ((n4 + n5) + (n6 + n7)) := by omega
    rw [t2]
    exact pc_h5 _ _ _ _ _ _ (by omega) (by omega)
  · rw [pc_h3 _ _ (by omega)]
    omega
theorem pc_last {x : Nat} (hx : x < 4294967296) (h : pc_le 16 4 8 x) : ∃ y, (x + x / 16) &&& 252645135 = y ∧ y < 4294967296 ∧ ((y + y / 256) + (y + y / 256) / 65536) % 64 = pc_ds 16 8 x ∧ y + y / 256 < 4294967296 := by
  obtain ⟨h0, h1, h2, h3, h4, h5, h6, h7, -⟩ := h
  have ed : pc_ds 16 8 x = x % 16 + (x / 16 % 16 + (x / 16 / 16 % 16 + (x / 16 / 16 / 16 % 16 + (x / 16 / 16 / 16 / 16 % 16 + (x / 16 / 16 / 16 / 16 / 16 % 16 + (x / 16 / 16 / 16 / 16 / 16 / 16 % 16 + x / 16 / 16 / 16 / 16 / 16 / 16 / 16 % 16)))))) := rfl
  rw [ed]
  have d0 := Nat.div_add_mod x 16
  have d1 := Nat.div_add_mod (x / 16) 16
  have d2 := Nat.div_add_mod (x / 16 / 16) 16
  have d3 := Nat.div_add_mod (x / 16 / 16 / 16) 16
  have d4 := Nat.div_add_mod (x / 16 / 16 / 16 / 16) 16
  have d5 := Nat.div_add_mod (x / 16 / 16 / 16 / 16 / 16) 16
  have d6 := Nat.div_add_mod (x / 16 / 16 / 16 / 16 / 16 / 16) 16
  have d7 : x / 16 / 16 / 16 / 16 / 16 / 16 / 16 < 16 := by
    rw [Nat.div_div_eq_div_mul, Nat.div_div_eq_div_mul, Nat.div_div_eq_div_mul, Nat.div_div_eq_div_mul, Nat.div_div_eq_div_mul, Nat.div_div_eq_div_mul]
    exact Nat.div_lt_of_lt_mul (by omega)
  have d8 := Nat.mod_eq_of_lt d7
  refine pc_lastD _ _ _ _ _ _ _ _ h0 h1 h2 h3 h4 h5 h6 h7 ?_
  rw [d8]
  generalize x / 16 / 16 / 16 / 16 / 16 / 16 / 16 = q7 at *
  generalize x / 16 / 16 / 16 / 16 / 16 / 16 % 16 = n6 at *
  generalize x / 16 / 16 / 16 / 16 / 16 / 16 = q6 at *
  generalize x / 16 / 16 / 16 / 16 / 16 % 16 = n5 at *
  generalize x / 16 / 16 / 16 / 16 / 16 = q5 at *
  generalize x / 16 / 16 / 16 / 16 % 16 = n4 at *
  generalize x / 16 / 16 / 16 / 16 = q4 at *
  generalize x / 16 / 16 / 16 % 16 = n3 at *
  generalize x / 16 / 16 / 16 = q3 at *
  generalize x / 16 / 16 % 16 = n2 at *
  generalize x / 16 / 16 = q2 at *
  generalize x / 16 % 16 = n1 at *
  generalize x / 16 = q1 at *
  generalize x % 16 = n0 at *
  omega
theorem pc_ok {N M : Nat} {sn : Nat → Int32} (hM : M < 2 ^ 30) (h : ∀ a, a < 30 → (M.testBit a = true ↔ sn a ≠ 0)) : f_In_bitCount N (nI M) = some (nI (pd_cnt sn 30)) := by
  have hM' : M < 1073741824 := hM
  have s1 := pc_stage 1 16 M (by omega)
  have s2 := pc_stage 2 8 (pc_S 2 16 M) (pc_S_lt (B := 2) (by decide) 16 M)
  have b1 : pc_S 2 16 M < 4294967296 := pc_S_lt (B := 2) (by decide) 16 M
  have b2 : pc_S 4 8 (pc_S 2 16 M) < 4294967296 := pc_S_lt (B := 4) (by decide) 8 _
  have l2 : pc_le 16 4 8 (pc_S 4 8 (pc_S 2 16 M)) := pc_leS (B := 4) (by decide) 8 _ (pc_leS (B := 2) (by decide) 16 _ (pc_le2 32 M))
  have d2 : pc_ds 16 8 (pc_S 4 8 (pc_S 2 16 M)) = pd_cnt sn 30 := by
    have a1 := pc_dsS (B := 4) (by decide) 8 (pc_S 2 16 M)
    have a2 := pc_dsS (B := 2) (by decide) 16 M
    have a3 := pc_ds_last 0 30 M
    have a4 := pc_ds_last 0 31 M
    have a5 := pc_bits 30 h
    have a6 : M / 2 ^ 30 = 0 := Nat.div_eq_of_lt hM
    have a7 : M / 2 ^ 31 = 0 := Nat.div_eq_of_lt (by omega)
    rw [a6] at a3
    rw [a7] at a4
    have a1' : pc_ds 16 8 (pc_S 4 8 (pc_S 2 16 M)) = pc_ds 4 16 (pc_S 2 16 M) := a1
    have a2' : pc_ds 4 16 (pc_S 2 16 M) = pc_ds 2 32 M := a2
    rw [a1', a2', a4, a3, a5]
    omega
  have m1 : pc_m (2 ^ 1) 16 = 1431655765 := by decide
  have m2 : pc_m (2 ^ 2) 8 = 858993459 := by decide
  rw [m1] at s1
  rw [m2] at s2
  have s1' : M - (M / 2 ^ 1 &&& 1431655765) = pc_S 2 16 M := by
    have q1 : (M &&& 1431655765) + (M / 2 ^ 1 &&& 1431655765) = pc_S 2 16 M := s1.1
    have q2 := s1.2
    generalize M / 2 ^ 1 &&& 1431655765 = C at *
    generalize M &&& 1431655765 = A at *
    generalize pc_S 2 16 M = G at *
    omega
  have s2' : (pc_S 2 16 M &&& 858993459) + (pc_S 2 16 M / 2 ^ 2 &&& 858993459) = pc_S 4 8 (pc_S 2 16 M) := s2.1
  unfold f_In_bitCount
  have e1 : nI M - (((nI M).toUInt32 >>> ((1 : Int32).toUInt32 &&& Int32.toUInt32 31)).toInt32 &&& 1431655765) = nI (pc_S 2 16 M) := by
    rw [pk_ushrN (by omega) _ 1 pc_u1, show (1431655765 : Int32) = nI 1431655765 from rfl, pc_andI, pk_sub (by have := s1.2; generalize M / 2 ^ 1 &&& 1431655765 = C at *; generalize M &&& 1431655765 = A at *; omega)]
    rw [show M - (M / 2 ^ 1 &&& 1431655765) = pc_S 2 16 M from s1']
  rw [e1]
  have e2 : (nI (pc_S 2 16 M) &&& 858993459) + (((nI (pc_S 2 16 M)).toUInt32 >>> ((2 : Int32).toUInt32 &&& Int32.toUInt32 31)).toInt32 &&& 858993459) = nI (pc_S 4 8 (pc_S 2 16 M)) := by
    rw [pk_ushrN (by omega) _ 2 pc_u2, show (858993459 : Int32) = nI 858993459 from rfl, pc_andI, pc_andI, nI_add]
    rw [s2']
  rw [e2]
  rw [← d2]
  generalize pc_S 4 8 (pc_S 2 16 M) = x at *
  obtain ⟨y, y1, y2, y3, y4⟩ := pc_last b2 l2
  rw [pk_ushrN (by omega) _ 4 pc_u4, nI_add, show (252645135 : Int32) = nI 252645135 from rfl, pc_andI, y1, pk_ushrN (by omega) _ 8 pc_u8, nI_add]
  have y4' : y + y / 2 ^ 8 < 2 ^ 32 := y4
  rw [pk_ushrN y4' _ 16 pc_u16, nI_add, show (63 : Int32) = nI 63 from rfl, pc_andI, show (63 : Nat) = 2 ^ 6 - 1 from rfl, Nat.and_two_pow_sub_one_eq_mod]
  rw [show ((y + y / 2 ^ 8) + (y + y / 2 ^ 8) / 2 ^ 16) % 2 ^ 6 = pc_ds 16 8 x from y3]
