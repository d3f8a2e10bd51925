def f_Li_freeNumber_2 (N : Nat) (x0_0 : (Nat → Int32)) : Nat → Int32 → Option (Int32)
  | 0, _ => none
  | n + 1, v1 => (if 30 ≤ v1 then (some (-2)) else (g_at v1 30 (if (x0_0 v1.toNatClampNeg) = 0 then (some v1) else (f_Li_freeNumber_2 N x0_0 n (v1 + 1)))))
def f_Li_freeNumber (N : Nat) (x0_0 : (Nat → Int32)) : Option (Int32) := (f_Li_freeNumber_2 N x0_0 N 0)
def f_Li_levelOf_4 (N : Nat) : Nat → Int32 → Int32 → Option (Int32)
  | 0, _, _ => none
  | n + 1, v1, v2 => (if 3 ≤ v1 then (some v1) else (if (v2 - v2 / 3 * 3) = 0 then (f_Li_levelOf_4 N n (v1 + 1) (v2 / 3)) else (some v1)))
def f_Li_levelOf (N : Nat) (a0 : Int32) : Option (Int32) := (f_Li_levelOf_4 N N 0 a0)
def f_Li_addNode_35 (N : Nat) (x0_0 : (Nat → Int32)) (x0_1 : (Nat → Int32)) (x0_5 : Int32) (a1 : Int32) (p4 : Int32) : Nat → (Nat → Int32) → Int32 → Option ((Nat → Int32) × (Nat → Int32) × (Nat → Int32) × Int32)
  | 0, _, _ => none
  | n + 1, vak0_3, v2 => (if 4 ≤ v2 then (some (upd x0_0 a1.toNatClampNeg (x0_5 + 1), upd x0_1 a1.toNatClampNeg p4, vak0_3, x0_5 + 1)) else (g_at ((a1 * 4) + v2) 120 (f_Li_addNode_35 N x0_0 x0_1 x0_5 a1 p4 n (upd vak0_3 ((a1 * 4) + v2).toNatClampNeg 0) (v2 + 1))))
def f_Li_addNode (N : Nat) (x0_0 : (Nat → Int32)) (x0_1 : (Nat → Int32)) (x0_2 : (Nat → Int32)) (x0_5 : Int32) (a1 : Int32) : Option ((Nat → Int32) × (Nat → Int32) × (Nat → Int32) × Int32) := (g_at a1 30 ((f_Li_levelOf N (x0_5 + 1)).bind fun p4 => (g_at a1 30 (f_Li_addNode_35 N x0_0 x0_1 x0_5 a1 p4 N x0_2 0))))
def f_Li_level (N : Nat) (x0_1 : (Nat → Int32)) (a1 : Int32) : Option (Int32) := (g_at a1 30 (some (x0_1 a1.toNatClampNeg)))
def f_Li_degree (N : Nat) (x0_2 : (Nat → Int32)) (a1 : Int32) (a2 : Int32) : Option (Int32) := (g_at ((a1 * 4) + a2) 120 (some (x0_2 ((a1 * 4) + a2).toNatClampNeg)))
def f_Li_linked (N : Nat) (x0_3 : (Nat → Int32)) (a1 : Int32) (a2 : Int32) (a3 : Int32) : Option (Int32) := (g_at ((((a1 * 4) + a2) * 7) + a3) 840 (some (x0_3 ((((a1 * 4) + a2) * 7) + a3).toNatClampNeg)))
def f_Li_append (N : Nat) (x0_2 : (Nat → Int32)) (x0_3 : (Nat → Int32)) (a1 : Int32) (a2 : Int32) (a3 : Int32) : Option ((Nat → Int32) × (Nat → Int32)) := (g_at ((a1 * 4) + a2) 120 (if 7 ≤ (x0_2 ((a1 * 4) + a2).toNatClampNeg) then (some (x0_2, x0_3)) else (g_at ((a1 * 4) + a2) 120 (g_at ((((a1 * 4) + a2) * 7) + (x0_2 ((a1 * 4) + a2).toNatClampNeg)) 840 (g_at ((a1 * 4) + a2) 120 (g_at ((a1 * 4) + a2) 120 (some (upd x0_2 ((a1 * 4) + a2).toNatClampNeg ((x0_2 ((a1 * 4) + a2).toNatClampNeg) + 1), upd x0_3 ((((a1 * 4) + a2) * 7) + (x0_2 ((a1 * 4) + a2).toNatClampNeg)).toNatClampNeg a3))))))))
def f_Li_replace_14 (N : Nat) (x1_0 : (Nat → Int32)) (x1_1 : Int32) (a1 : Int32) (a2 : Int32) : Nat → (Nat → Int32) → (Nat → Int32) → Int32 → Option ((Nat → Int32) × (Nat → Int32))
  | 0, _, _, _ => none
  | n + 1, vak0_3, vak0_4, v4 => ((f_Ch_size N x1_1).bind fun p3 => (if p3 ≤ v4 then (some (vak0_3, vak0_4)) else ((f_Ch_chosen N x1_0 v4).bind fun p5 => ((f_Li_append N vak0_3 vak0_4 a1 a2 p5).bind fun p6 => (f_Li_replace_14 N x1_0 x1_1 a1 a2 n p6.1 p6.2 (v4 + 1))))))
def f_Li_replace (N : Nat) (x0_2 : (Nat → Int32)) (x0_3 : (Nat → Int32)) (x1_0 : (Nat → Int32)) (x1_1 : Int32) (a1 : Int32) (a2 : Int32) : Option ((Nat → Int32) × (Nat → Int32)) := (g_at ((a1 * 4) + a2) 120 (f_Li_replace_14 N x1_0 x1_1 a1 a2 N (upd x0_2 ((a1 * 4) + a2).toNatClampNeg 0) x0_3 0))
def f_Li_most (N : Nat) (a1 : Int32) : Option (Int32) := (if a1 = 0 then (some 6) else (some 3))
def f_Li_size (N : Nat) (x0_5 : Int32) : Option (Int32) := (some x0_5)
def f_Li_clear_2 (N : Nat) : Nat → (Nat → Int32) → Int32 → Option ((Nat → Int32) × Int32)
  | 0, _, _ => none
  | n + 1, vak0_1, v1 => (if 30 ≤ v1 then (some (vak0_1, 0)) else (g_at v1 30 (f_Li_clear_2 N n (upd vak0_1 v1.toNatClampNeg 0) (v1 + 1))))
def f_Li_clear (N : Nat) (x0_0 : (Nat → Int32)) : Option ((Nat → Int32) × Int32) := (f_Li_clear_2 N N x0_0 0)
def f_Li_isNode (N : Nat) (x0_0 : (Nat → Int32)) (a1 : Int32) : Option (Int32) := ((f_Nd_isDocumentNumber N a1).bind fun p1 => (if p1 = 0 then (some 0) else (g_at a1 30 (if (x0_0 a1.toNatClampNeg) ≤ 0 then (some 0) else (some 1)))))
def f_Li_isInLayer (N : Nat) (x0_0 : (Nat → Int32)) (x0_1 : (Nat → Int32)) (a1 : Int32) (a2 : Int32) : Option (Int32) := ((f_Li_isNode N x0_0 a1).bind fun p1 => (if p1 = 0 then (some 0) else (g_at a1 30 ((f_Nd_isWithin N a2 0 (x0_1 a1.toNatClampNeg)).bind fun p4 => (if p4 = 0 then (some 0) else (some 1))))))
def f_Li_order (N : Nat) (x0_0 : (Nat → Int32)) (a1 : Int32) : Option (Int32) := (g_at a1 30 (some (x0_0 a1.toNatClampNeg)))
def f_Li_isLinked_2 (N : Nat) (x0_2 : (Nat → Int32)) (x0_3 : (Nat → Int32)) (a1 : Int32) (a2 : Int32) : Nat → Int32 → Option (Int32)
  | 0, _ => none
  | n + 1, v3 => ((f_Li_degree N x0_2 a1 0).bind fun p1 => (if p1 ≤ v3 then (some 0) else ((f_Li_linked N x0_3 a1 0 v3).bind fun p3 => (if p3 = a2 then (some 1) else (f_Li_isLinked_2 N x0_2 x0_3 a1 a2 n (v3 + 1))))))
def f_Li_isLinked (N : Nat) (x0_2 : (Nat → Int32)) (x0_3 : (Nat → Int32)) (a1 : Int32) (a2 : Int32) : Option (Int32) := (f_Li_isLinked_2 N x0_2 x0_3 a1 a2 N 0)
def f_Li_unreturned_4 (N : Nat) (x0_2 : (Nat → Int32)) (x0_3 : (Nat → Int32)) (a1 : Int32) : Nat → Int32 → Int32 → Option (Int32)
  | 0, _, _ => none
  | n + 1, v2, v3 => ((f_Li_degree N x0_2 a1 0).bind fun p1 => (if p1 ≤ v3 then (some v2) else ((f_Li_linked N x0_3 a1 0 v3).bind fun p3 => ((f_Li_isLinked N x0_2 x0_3 p3 a1).bind fun p4 => (if p4 = 0 then (f_Li_unreturned_4 N x0_2 x0_3 a1 n (v2 + 1) (v3 + 1)) else (f_Li_unreturned_4 N x0_2 x0_3 a1 n v2 (v3 + 1)))))))
def f_Li_unreturned (N : Nat) (x0_2 : (Nat → Int32)) (x0_3 : (Nat → Int32)) (a1 : Int32) : Option (Int32) := (f_Li_unreturned_4 N x0_2 x0_3 a1 N 0 0)
def f_Li_oneSidedPairs_4 (N : Nat) (x0_0 : (Nat → Int32)) (x0_2 : (Nat → Int32)) (x0_3 : (Nat → Int32)) : Nat → Int32 → Int32 → Option (Int32)
  | 0, _, _ => none
  | n + 1, v1, v2 => (if 30 ≤ v2 then (some v1) else ((f_Li_isNode N x0_0 v2).bind fun p2 => (if p2 = 0 then (f_Li_oneSidedPairs_4 N x0_0 x0_2 x0_3 n v1 (v2 + 1)) else ((f_Li_unreturned N x0_2 x0_3 v2).bind fun p4 => (f_Li_oneSidedPairs_4 N x0_0 x0_2 x0_3 n (v1 + p4) (v2 + 1))))))
def f_Li_oneSidedPairs (N : Nat) (x0_0 : (Nat → Int32)) (x0_2 : (Nat → Int32)) (x0_3 : (Nat → Int32)) : Option (Int32) := (f_Li_oneSidedPairs_4 N x0_0 x0_2 x0_3 N 0 0)
def f_Li_reachedFrom_42 (N : Nat) (x0_2 : (Nat → Int32)) (x0_3 : (Nat → Int32)) (v4 : Int32) (kk : (Nat → Int32) → Int32 → Int32 → Int32 → Option (Int32 × (Nat → Int32))) : Nat → (Nat → Int32) → Int32 → Int32 → Int32 → Option (Int32 × (Nat → Int32))
  | 0, _, _, _, _ => none
  | n + 1, vak0_5, v2, v3, v5 => (g_at v4 30 ((f_Li_degree N x0_2 (vak0_5 v4.toNatClampNeg) 0).bind fun p10 => (if p10 ≤ v5 then (kk vak0_5 v2 v3 v5) else (g_at v4 30 ((f_Li_linked N x0_3 (vak0_5 v4.toNatClampNeg) 0 v5).bind fun p13 => ((f_Nd_isIn N v2 p13).bind fun p14 => (if p14 = 0 then (g_at v3 30 (f_Li_reachedFrom_42 N x0_2 x0_3 v4 kk n (upd vak0_5 v3.toNatClampNeg p13) (v2 ||| (1 <<< (p13 &&& 31))) (v3 + 1) (v5 + 1))) else (f_Li_reachedFrom_42 N x0_2 x0_3 v4 kk n vak0_5 v2 v3 (v5 + 1)))))))))
def f_Li_reachedFrom_26 (N : Nat) (x0_2 : (Nat → Int32)) (x0_3 : (Nat → Int32)) : Nat → (Nat → Int32) → Int32 → Int32 → Int32 → Option (Int32 × (Nat → Int32))
  | 0, _, _, _, _ => none
  | n + 1, vak0_5, v2, v3, v4 => (if 30 ≤ v4 then (some (v3, vak0_5)) else (if v3 ≤ v4 then (some (v3, vak0_5)) else (f_Li_reachedFrom_42 N x0_2 x0_3 v4 (fun vak0_5_7 v2_7 v3_7 v5_7 => (f_Li_reachedFrom_26 N x0_2 x0_3 n vak0_5_7 v2_7 v3_7 (v4 + 1))) N vak0_5 v2 v3 0)))
def f_Li_reachedFrom (N : Nat) (x0_0 : (Nat → Int32)) (x0_2 : (Nat → Int32)) (x0_3 : (Nat → Int32)) (x0_4 : (Nat → Int32)) (a1 : Int32) : Option (Int32 × (Nat → Int32)) := ((f_Li_isNode N x0_0 a1).bind fun p1 => (if p1 = 0 then (some (0, x0_4)) else (g_at 0 30 (f_Li_reachedFrom_26 N x0_2 x0_3 N (upd x0_4 (0 : Int32).toNatClampNeg a1) (1 <<< (a1 &&& 31)) 1 0))))
