def f_Do_store (N : Nat) (x0_0 : (Nat → Nat → Int32)) (x0_1 : (Nat → Int32)) (x0_3 : Int32) (a1 : Int32) (a2 : Int32) (a3 : Int32) (a4 : Int32) (a5 : Int32) (a6 : Int32) : Option ((Nat → Nat → Int32) × (Nat → Int32) × Int32) := (g_at a1 30 ((f_Nd_writeVector N (x0_0 a1.toNatClampNeg) a2 a3 a4 a5).bind fun p2 => (g_at a1 30 (some (va_up x0_0 a1.toNatClampNeg p2, upd x0_1 a1.toNatClampNeg a6, x0_3 ||| (1 <<< (a1 &&& 31)))))))
def f_Do_vector (N : Nat) (a1 : Int32) : Option (Unit) := (g_at a1 30 (some ()))
def f_Do_measure_2 (N : Nat) (x0_0 : (Nat → Nat → Int32)) (x1_0 : (Nat → Int32)) : Nat → (Nat → Int32) → Int32 → Option ((Nat → Int32))
  | 0, _, _ => none
  | n + 1, vak2_0, v3 => (if 30 ≤ v3 then (some vak2_0) else (g_at v3 30 ((f_Nd_distance N x1_0 (x0_0 v3.toNatClampNeg)).bind fun p3 => (g_at v3 30 (f_Do_measure_2 N x0_0 x1_0 n (upd vak2_0 v3.toNatClampNeg p3) (v3 + 1))))))
def f_Do_measure (N : Nat) (x0_0 : (Nat → Nat → Int32)) (x1_0 : (Nat → Int32)) (x2_0 : (Nat → Int32)) : Option ((Nat → Int32)) := (f_Do_measure_2 N x0_0 x1_0 N x2_0 0)
def f_Do_isLive (N : Nat) (x0_3 : Int32) (a1 : Int32) : Option (Int32) := ((f_Nd_isDocumentNumber N a1).bind fun p1 => (if p1 = 0 then (some 0) else ((f_Nd_isIn N x0_3 a1).bind fun p3 => (if p3 = 0 then (some 0) else (some 1)))))
def f_Do_retire (N : Nat) (x0_3 : Int32) (a1 : Int32) : Option (Int32 × Int32) := ((f_Do_isLive N x0_3 a1).bind fun p1 => (if p1 = 0 then (some (0, x0_3)) else (some (1, x0_3 &&& ((1 <<< (a1 &&& 31)) ^^^ (-1))))))
def f_Do_liveCount (N : Nat) (x0_3 : Int32) : Option (Int32) := ((f_In_bitCount N x0_3).bind fun p1 => (some p1))
def f_Do_rankByDistance_2 (N : Nat) (x0_0 : (Nat → Nat → Int32)) (x0_3 : Int32) (x1_0 : (Nat → Int32)) : Nat → T_Rk → Int32 → Option ((Nat → Int32) × (Nat → Int32) × Int32 × Int32 × Int32)
  | 0, _, _ => none
  | n + 1, vbk2_0, v3 => (if 30 ≤ v3 then (some (vbk2_0.1, vbk2_0.2.1, vbk2_0.2.2.1, vbk2_0.2.2.2.1, vbk2_0.2.2.2.2)) else ((f_Do_isLive N x0_3 v3).bind fun p2 => (if p2 = 0 then (f_Do_rankByDistance_2 N x0_0 x0_3 x1_0 n vbk2_0 (v3 + 1)) else (g_at v3 30 ((f_Nd_distance N x1_0 (x0_0 v3.toNatClampNeg)).bind fun p5 => ((f_Rk_add N vbk2_0.1 vbk2_0.2.1 vbk2_0.2.2.1 vbk2_0.2.2.2.1 vbk2_0.2.2.2.2 v3 p5).bind fun p6 => (f_Do_rankByDistance_2 N x0_0 x0_3 x1_0 n (p6.2.1, p6.2.2.1, p6.2.2.2, vbk2_0.2.2.2.1, vbk2_0.2.2.2.2) (v3 + 1))))))))
def f_Do_rankByDistance (N : Nat) (x0_0 : (Nat → Nat → Int32)) (x0_3 : Int32) (x1_0 : (Nat → Int32)) (x2_0 : (Nat → Int32)) (x2_1 : (Nat → Int32)) (x2_2 : Int32) (x2_3 : Int32) (x2_4 : Int32) : Option ((Nat → Int32) × (Nat → Int32) × Int32 × Int32 × Int32) := (f_Do_rankByDistance_2 N x0_0 x0_3 x1_0 N (x2_0, x2_1, x2_2, x2_3, x2_4) 0)
def f_Do_countOfWord (N : Nat) (x0_1 : (Nat → Int32)) (a1 : Int32) (a2 : Int32) : Option (Int32) := (g_at a1 30 (some (((x0_1 a1.toNatClampNeg) >>> ((3 * a2) &&& 31)) &&& 7)))
def f_Do_liveWith_4 (N : Nat) (x0_1 : (Nat → Int32)) (x0_3 : Int32) (a1 : Int32) : Nat → Int32 → Int32 → Option (Int32)
  | 0, _, _ => none
  | n + 1, v2, v3 => (if 30 ≤ v3 then (some v2) else ((f_Do_isLive N x0_3 v3).bind fun p2 => (if p2 = 0 then (f_Do_liveWith_4 N x0_1 x0_3 a1 n v2 (v3 + 1)) else ((f_Do_countOfWord N x0_1 v3 a1).bind fun p4 => (if p4 ≤ 0 then (f_Do_liveWith_4 N x0_1 x0_3 a1 n v2 (v3 + 1)) else (f_Do_liveWith_4 N x0_1 x0_3 a1 n (v2 + 1) (v3 + 1)))))))
def f_Do_liveWith (N : Nat) (x0_1 : (Nat → Int32)) (x0_3 : Int32) (a1 : Int32) : Option (Int32) := (f_Do_liveWith_4 N x0_1 x0_3 a1 N 0 0)
def f_Do_weighWords_2 (N : Nat) (x0_1 : (Nat → Int32)) (x0_3 : Int32) : Nat → (Nat → Int32) → Int32 → Option ((Nat → Int32))
  | 0, _, _ => none
  | n + 1, vak0_33, v1 => (if 8 ≤ v1 then (some vak0_33) else ((f_Do_liveWith N x0_1 x0_3 v1).bind fun p2 => (if p2 ≤ 0 then (g_at v1 8 (f_Do_weighWords_2 N x0_1 x0_3 n (upd vak0_33 v1.toNatClampNeg 0) (v1 + 1))) else ((f_Do_liveCount N x0_3).bind fun p6 => (g_dv p2 (g_at v1 8 (f_Do_weighWords_2 N x0_1 x0_3 n (upd vak0_33 v1.toNatClampNeg (1 + (p6 / p2))) (v1 + 1))))))))
def f_Do_weighWords (N : Nat) (x0_1 : (Nat → Int32)) (x0_2 : (Nat → Int32)) (x0_3 : Int32) : Option ((Nat → Int32)) := (f_Do_weighWords_2 N x0_1 x0_3 N x0_2 0)
def f_Do_score_5 (N : Nat) (x0_1 : (Nat → Int32)) (x0_2 : (Nat → Int32)) (a1 : Int32) (a2 : Int32) : Nat → Int32 → Int32 → Option (Int32)
  | 0, _, _ => none
  | n + 1, v3, v4 => (if 8 ≤ v4 then (some v3) else ((f_Nd_isIn N a2 v4).bind fun p2 => (if p2 = 0 then (f_Do_score_5 N x0_1 x0_2 a1 a2 n v3 (v4 + 1)) else ((f_Do_countOfWord N x0_1 a1 v4).bind fun p4 => (g_dv (p4 + 1) (g_at v4 8 (f_Do_score_5 N x0_1 x0_2 a1 a2 n (v3 + (((100 * p4) / (p4 + 1)) * (x0_2 v4.toNatClampNeg))) (v4 + 1))))))))
def f_Do_score (N : Nat) (x0_1 : (Nat → Int32)) (x0_2 : (Nat → Int32)) (a1 : Int32) (a2 : Int32) : Option (Int32) := (f_Do_score_5 N x0_1 x0_2 a1 a2 N 0 0)
def f_Do_rankByScore_6 (N : Nat) (x0_1 : (Nat → Int32)) (x0_3 : Int32) (a1 : Int32) (p1 : (Nat → Int32)) : Nat → T_Rk → Int32 → Option ((Nat → Int32) × (Nat → Int32) × (Nat → Int32) × Int32 × Int32 × Int32)
  | 0, _, _ => none
  | n + 1, vbk1_0, v3 => (if 30 ≤ v3 then (some (p1, vbk1_0.1, vbk1_0.2.1, vbk1_0.2.2.1, vbk1_0.2.2.2.1, vbk1_0.2.2.2.2)) else ((f_Do_isLive N x0_3 v3).bind fun p4 => (if p4 = 0 then (f_Do_rankByScore_6 N x0_1 x0_3 a1 p1 n vbk1_0 (v3 + 1)) else ((f_Do_score N x0_1 p1 v3 a1).bind fun p7 => (if p7 ≤ 0 then (f_Do_rankByScore_6 N x0_1 x0_3 a1 p1 n vbk1_0 (v3 + 1)) else ((f_Rk_add N vbk1_0.1 vbk1_0.2.1 vbk1_0.2.2.1 vbk1_0.2.2.2.1 vbk1_0.2.2.2.2 v3 p7).bind fun p9 => (f_Do_rankByScore_6 N x0_1 x0_3 a1 p1 n (p9.2.1, p9.2.2.1, p9.2.2.2, vbk1_0.2.2.2.1, vbk1_0.2.2.2.2) (v3 + 1))))))))
def f_Do_rankByScore (N : Nat) (x0_1 : (Nat → Int32)) (x0_2 : (Nat → Int32)) (x0_3 : Int32) (x1_0 : (Nat → Int32)) (x1_1 : (Nat → Int32)) (x1_2 : Int32) (x1_3 : Int32) (x1_4 : Int32) (a1 : Int32) : Option ((Nat → Int32) × (Nat → Int32) × (Nat → Int32) × Int32 × Int32 × Int32) := ((f_Do_weighWords N x0_1 x0_2 x0_3).bind fun p1 => (f_Do_rankByScore_6 N x0_1 x0_3 a1 p1 N (x1_0, x1_1, x1_2, x1_3, x1_4) 0))
def f_Do_counts (N : Nat) (x0_1 : (Nat → Int32)) (a1 : Int32) : Option (Int32) := (g_at a1 30 (some (x0_1 a1.toNatClampNeg)))
def f_Do_coordinate (N : Nat) (x0_0 : (Nat → Nat → Int32)) (a1 : Int32) (a2 : Int32) : Option (Int32) := (g_at a1 30 (g_at a2 4 (some ((x0_0 a1.toNatClampNeg) a2.toNatClampNeg))))
