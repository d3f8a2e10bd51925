/-! PURE: count 9 -/
def rc_C (D R isN : Nat → Int32) (e : Nat) (C : Nat → Prop) : Prop := C e ∧ ∀ a, os_N isN a → C a → ∀ b ∈ os_r D R a, C b
theorem rc_cnt {S S' : Nat → Int32} : ∀ n : Nat, (∀ a, a < n → S a ≠ 0 → S' a ≠ 0) → pd_cnt S n ≤ pd_cnt S' n ∧ (pd_cnt S n = pd_cnt S' n → ∀ a, a < n → S' a ≠ 0 → S a ≠ 0)
  | 0, _ => ⟨Nat.le_refl _, fun _ a ha => absurd ha (Nat.not_lt_zero _)⟩
  | n + 1, h => by
    obtain ⟨i1, i2⟩ := rc_cnt n (fun a ha => h a (Nat.lt_succ_of_lt ha))
    unfold pd_cnt
    by_cases c : S n = 0
    · rw [if_pos c]
      by_cases d : S' n = 0
      · rw [if_pos d]
        refine ⟨i1, fun he a ha hs => ?_⟩
        by_cases e : a = n
        · subst e; exact absurd d hs
        · exact i2 he a (by omega) hs
      · rw [if_neg d]
        exact ⟨by omega, fun he => absurd he (by omega)⟩
    · have d := h n (Nat.lt_succ_self n) c
      rw [if_neg c, if_neg d]
      refine ⟨by omega, fun he a ha hs => ?_⟩
      by_cases e : a = n
      · subst e; exact c
      · exact i2 (by omega) a (by omega) hs
/-- the reference: one node's turn -/
theorem rc_51 {N : Nat} (hN : 64 ≤ N) {D R isN : Nat → Int32} (hG : os_G D R isN) {e n : Nat} (hn : n < 30) (kk : (Nat → Int32) → Int32 → Option (Int32 × (Nat → Int32))) : ∀ (k j m : Nat) (S : Nat → Int32), j + k = 30 → (∀ C, rc_C D R isN e C → ∀ a, a < 30 → S a ≠ 0 → C a) → (∀ a, a < 30 → S a ≠ 0 → os_N isN a) →
    ∃ S', f_Mo_reached_51 N R D (nI n) kk (m + k + 1) S (nI j) = kk S' (nI 30) ∧ (∀ a, a < 30 → S a ≠ 0 → S' a ≠ 0) ∧ (∀ C, rc_C D R isN e C → ∀ a, a < 30 → S' a ≠ 0 → C a) ∧ (∀ a, a < 30 → S' a ≠ 0 → os_N isN a) ∧ (S n ≠ 0 → ∀ b ∈ os_r D R n, j ≤ b → S' b ≠ 0) := by
  intro k
  induction k with
  | zero =>
    intro j m S hj h1 h2
    have : j = 30 := by omega
    subst this
    refine ⟨S, ?_, fun a _ h => h, h1, h2, fun hs b hb h30 => ?_⟩
    · rw [f_Mo_reached_51, if_pos (by decide)]
    · have := ((hG n (h2 n hn hs)).2.2.2 b hb).1
      omega
  | succ k ih =>
    intro j m S hj h1 h2
    have hj30 : j < 30 := by omega
    have skip : (S n ≠ 0 → j ∉ os_r D R n) → ∃ S', f_Mo_reached_51 N R D (nI n) kk (m + k + 1) S (nI (j + 1)) = kk S' (nI 30) ∧ (∀ a, a < 30 → S a ≠ 0 → S' a ≠ 0) ∧ (∀ C, rc_C D R isN e C → ∀ a, a < 30 → S' a ≠ 0 → C a) ∧ (∀ a, a < 30 → S' a ≠ 0 → os_N isN a) ∧ (S n ≠ 0 → ∀ b ∈ os_r D R n, j ≤ b → S' b ≠ 0) := by
      intro hsk
      obtain ⟨S', e1, e2, e3, e4, e5⟩ := ih (j + 1) m S (by omega) h1 h2
      refine ⟨S', e1, e2, e3, e4, fun hs b hb hjb => ?_⟩
      by_cases q : b = j
      · subst q; exact absurd hb (hsk hs)
      · exact e5 hs b hb (by omega)
    rw [show m + (k + 1) + 1 = (m + k + 1) + 1 from rfl, f_Mo_reached_51, if_neg (show ¬ (30 : Int32) ≤ nI j from nI_ge (b := 30) (by omega) (by omega)), pb_at hn (by decide), pd_cl (show n < 2147483648 by omega), nI_1]
    by_cases c : S n = 0
    · rw [if_pos c]
      exact skip (fun q => absurd c q)
    · have hnn := h2 n hn c
      rw [if_neg c, os_neighbour hN hG hnn hj30, Option.bind_some]
      by_cases d : j ∈ os_r D R n
      · simp only [if_pos d, if_neg pz_10]
        rw [pb_at hj30 (by decide), pd_cl (show j < 2147483648 by omega), pz_n1]
        have hjn := (hG n hnn).2.2.2 j d
        obtain ⟨S', e1, e2, e3, e4, e5⟩ := ih (j + 1) m (upd S j 1) (by omega) (fun C hC a ha hs => by
          by_cases q : a = j
          · subst q; exact hC.2 n hnn (h1 C hC n hn c) a d
          · rw [pk_un q] at hs; exact h1 C hC a ha hs) (fun a ha hs => by
          by_cases q : a = j
          · subst q; exact hjn
          · rw [pk_un q] at hs; exact h2 a ha hs)
        refine ⟨S', e1, fun a ha hs => e2 a ha ?_, e3, e4, fun hs b hb hjb => ?_⟩
        · by_cases q : a = j
          · subst q; rw [pk_us]; exact pz_10
          · rw [pk_un q]; exact hs
        · by_cases q : b = j
          · subst q
            exact e2 b hj30 (by rw [pk_us]; exact pz_10)
          · refine e5 ?_ b hb (by omega)
            by_cases q2 : n = j
            · subst q2; rw [pk_us]; exact pz_10
            · rw [pk_un q2]; exact hs
      · simp only [if_neg d, if_true]
        exact skip (fun _ => d)
/-- a round -/
theorem rc_43 {N : Nat} (hN : 64 ≤ N) {D R isN : Nat → Int32} (hG : os_G D R isN) {e : Nat} (kk : (Nat → Int32) → Int32 → Option (Int32 × (Nat → Int32))) : ∀ (k j m : Nat) (S : Nat → Int32), j + k = 30 → (∀ C, rc_C D R isN e C → ∀ a, a < 30 → S a ≠ 0 → C a) → (∀ a, a < 30 → S a ≠ 0 → os_N isN a) →
    ∃ S', f_Mo_reached_43 N R D kk (m + k + 1) S (nI j) = kk S' (nI 30) ∧ (∀ a, a < 30 → S a ≠ 0 → S' a ≠ 0) ∧ (∀ C, rc_C D R isN e C → ∀ a, a < 30 → S' a ≠ 0 → C a) ∧ (∀ a, a < 30 → S' a ≠ 0 → os_N isN a) ∧ (∀ n, j ≤ n → n < 30 → S n ≠ 0 → ∀ b ∈ os_r D R n, S' b ≠ 0) := by
  intro k
  induction k with
  | zero =>
    intro j m S hj h1 h2
    have : j = 30 := by omega
    subst this
    refine ⟨S, ?_, fun a _ h => h, h1, h2, fun n h3 h4 => absurd h4 (by omega)⟩
    rw [f_Mo_reached_43, if_pos (by decide)]
  | succ k ih =>
    intro j m S hj h1 h2
    have hj30 : j < 30 := by omega
    obtain ⟨S1, a1, a2, a3, a4, a5⟩ := rc_51 (N := N) hN hG (e := e) hj30 (fun vak0_11_12 v3_12 => (f_Mo_reached_43 N R D kk (m + k + 1) vak0_11_12 (nI j + 1))) 30 0 (N - 31) S (by omega) h1 h2
    rw [show N - 31 + 30 + 1 = N by omega] at a1
    obtain ⟨S', e1, e2, e3, e4, e5⟩ := ih (j + 1) m S1 (by omega) a3 a4
    refine ⟨S', ?_, fun a ha hs => e2 a ha (a2 a ha hs), e3, e4, fun n h3 h4 hs b hb => ?_⟩
    · rw [show m + (k + 1) + 1 = (m + k + 1) + 1 from rfl, f_Mo_reached_43, if_neg (show ¬ (30 : Int32) ≤ nI j from nI_ge (b := 30) (by omega) (by omega))]
      refine Eq.trans a1 ?_
      rw [nI_1]
      exact e1
    · by_cases q : n = j
      · subst q
        exact e2 b ((hG n (h2 n h4 hs)).2.2.2 b hb).1 (a5 hs b hb (Nat.zero_le _))
      · exact e5 n (by omega) h4 (a2 n h4 hs) b hb
def rc_cl (D R isN S : Nat → Int32) : Prop := ∀ n, n < 30 → S n ≠ 0 → ∀ b ∈ os_r D R n, S b ≠ 0
theorem rc_35 {N : Nat} (hN : 64 ≤ N) {D R isN : Nat → Int32} (hG : os_G D R isN) {e : Nat} : ∀ (k j m : Nat) (S : Nat → Int32), j + k = 30 → (∀ C, rc_C D R isN e C → ∀ a, a < 30 → S a ≠ 0 → C a) → (∀ a, a < 30 → S a ≠ 0 → os_N isN a) → S e ≠ 0 → e < 30 → (rc_cl D R isN S ∨ j + 1 ≤ pd_cnt S 30) →
    ∃ S', f_Mo_reached_35 N R D (m + k + 1) S (nI j) = some (nI (pd_cnt S' 30), S') ∧ (∀ C, rc_C D R isN e C → ∀ a, a < 30 → S' a ≠ 0 → C a) ∧ S' e ≠ 0 ∧ rc_cl D R isN S' := by
  intro k
  induction k with
  | zero =>
    intro j m S hj h1 h2 h3 h4 h5
    have : j = 30 := by omega
    subst this
    refine ⟨S, ?_, h1, h3, h5.elim id (fun q => by have := wk_cnt30 S; omega)⟩
    rw [f_Mo_reached_35, if_pos (by decide), pd_size (by omega), Option.bind_some]
  | succ k ih =>
    intro j m S hj h1 h2 h3 h4 h5
    have hj30 : j < 30 := by omega
    obtain ⟨S1, a1, a2, a3, a4, a5⟩ := rc_43 (N := N) hN hG (e := e) (fun vak0_11_9 v2_9 => (f_Mo_reached_35 N R D (m + k + 1) vak0_11_9 (nI j + 1))) 30 0 (N - 31) S (by omega) h1 h2
    rw [show N - 31 + 30 + 1 = N by omega] at a1
    have hc := rc_cnt 30 a2
    have hstep : rc_cl D R isN S1 ∨ j + 1 + 1 ≤ pd_cnt S1 30 := by
      by_cases q : pd_cnt S 30 = pd_cnt S1 30
      · refine Or.inl (fun n hn hs b hb => ?_)
        exact a5 n (Nat.zero_le _) hn (hc.2 q n hn hs) b hb
      · rcases h5 with h5 | h5
        · refine Or.inl (fun n hn hs b hb => ?_)
          have hcS : rc_C D R isN e (fun a => a < 30 ∧ S a ≠ 0) := ⟨⟨h4, h3⟩, fun a ha hca b hb => ⟨((hG a ha).2.2.2 b hb).1, h5 a hca.1 hca.2 b hb⟩⟩
          have hsn := (a3 _ hcS n hn hs).2
          exact a2 b ((hG n (h2 n hn hsn)).2.2.2 b hb).1 (h5 n hn hsn b hb)
        · exact Or.inr (by have := hc.1; omega)
    obtain ⟨S', e1, e2⟩ := ih (j + 1) m S1 (by omega) a3 a4 (a2 e h4 h3) h4 hstep
    refine ⟨S', ?_, e2⟩
    rw [show m + (k + 1) + 1 = (m + k + 1) + 1 from rfl, f_Mo_reached_35, if_neg (show ¬ (30 : Int32) ≤ nI j from nI_ge (b := 30) (by omega) (by omega))]
    refine Eq.trans a1 ?_
    rw [nI_1]
    exact e1
/-- no entry: nothing is seen, ever -/
theorem rc_z51 {N : Nat} {D R : Nat → Int32} {n : Nat} (hn : n < 30) (S : Nat → Int32) (h0 : S n = 0) (kk : (Nat → Int32) → Int32 → Option (Int32 × (Nat → Int32))) : ∀ (k j m : Nat), j + k = 30 → f_Mo_reached_51 N R D (nI n) kk (m + k + 1) S (nI j) = kk S (nI 30) := by
  intro k
  induction k with
  | zero =>
    intro j m hj
    have : j = 30 := by omega
    subst this
    rw [f_Mo_reached_51, if_pos (by decide)]
  | succ k ih =>
    intro j m hj
    rw [show m + (k + 1) + 1 = (m + k + 1) + 1 from rfl, f_Mo_reached_51, if_neg (show ¬ (30 : Int32) ≤ nI j from nI_ge (b := 30) (by omega) (by omega)), pb_at hn (by decide), pd_cl (show n < 2147483648 by omega), if_pos h0, nI_1]
    exact ih (j + 1) m (by omega)
theorem rc_z43 {N : Nat} (hN : 64 ≤ N) {D R : Nat → Int32} (S : Nat → Int32) (h0 : ∀ a, a < 30 → S a = 0) (kk : (Nat → Int32) → Int32 → Option (Int32 × (Nat → Int32))) : ∀ (k j m : Nat), j + k = 30 → f_Mo_reached_43 N R D kk (m + k + 1) S (nI j) = kk S (nI 30) := by
  intro k
  induction k with
  | zero =>
    intro j m hj
    have : j = 30 := by omega
    subst this
    rw [f_Mo_reached_43, if_pos (by decide)]
  | succ k ih =>
    intro j m hj
    have hz := rc_z51 (N := N) (D := D) (R := R) (show j < 30 by omega) S (h0 j (by omega)) (fun vak0_11_12 v3_12 => (f_Mo_reached_43 N R D kk (m + k + 1) vak0_11_12 (nI j + 1))) 30 0 (N - 31) (by omega)
    rw [show N - 31 + 30 + 1 = N by omega] at hz
    rw [show m + (k + 1) + 1 = (m + k + 1) + 1 from rfl, f_Mo_reached_43, if_neg (show ¬ (30 : Int32) ≤ nI j from nI_ge (b := 30) (by omega) (by omega))]
    refine Eq.trans hz ?_
    rw [nI_1]
    exact ih (j + 1) m (by omega)
theorem rc_z35 {N : Nat} (hN : 64 ≤ N) {D R : Nat → Int32} (S : Nat → Int32) (h0 : ∀ a, a < 30 → S a = 0) : ∀ (k j m : Nat), j + k = 30 → f_Mo_reached_35 N R D (m + k + 1) S (nI j) = some (0, S) := by
  intro k
  induction k with
  | zero =>
    intro j m hj
    have : j = 30 := by omega
    subst this
    rw [f_Mo_reached_35, if_pos (by decide), pd_size (by omega), rm_zero 30 h0, Option.bind_some]
    rfl
  | succ k ih =>
    intro j m hj
    have hz := rc_z43 (N := N) hN (D := D) (R := R) S h0 (fun vak0_11_9 v2_9 => (f_Mo_reached_35 N R D (m + k + 1) vak0_11_9 (nI j + 1))) 30 0 (N - 31) (by omega)
    rw [show N - 31 + 30 + 1 = N by omega] at hz
    rw [show m + (k + 1) + 1 = (m + k + 1) + 1 from rfl, f_Mo_reached_35, if_neg (show ¬ (30 : Int32) ≤ nI j from nI_ge (b := 30) (by omega) (by omega))]
    refine Eq.trans hz ?_
    rw [nI_1]
    exact ih (j + 1) m (by omega)
theorem rc_2 {N : Nat} {D R : Nat → Int32} (entryM : Int32) : ∀ (k j m : Nat) (S : Nat → Int32), j + k = 30 → (∀ a, a < j → (S a ≠ 0 ↔ nI a = entryM)) → ∃ S', f_Mo_reached_2 N R D entryM (m + k + 1) S (nI j) = f_Mo_reached_35 N R D N S' 0 ∧ ∀ a, a < 30 → (S' a ≠ 0 ↔ nI a = entryM) := by
  intro k
  induction k with
  | zero =>
    intro j m S hj h
    refine ⟨S, ?_, fun a ha => h a (by omega)⟩
    rw [f_Mo_reached_2, if_pos (show (30 : Int32) ≤ nI j from nI_le (a := 30) (by omega) (by omega))]
  | succ k ih =>
    intro j m S hj h
    rw [show m + (k + 1) + 1 = (m + k + 1) + 1 from rfl, f_Mo_reached_2, if_neg (show ¬ (30 : Int32) ≤ nI j from nI_ge (b := 30) (by omega) (by omega)), pb_at (show j < 30 by omega) (by decide), pb_at (show j < 30 by omega) (by decide), pd_cl (show j < 2147483648 by omega), pz_n0, pz_n1, nI_1]
    by_cases c : nI j = entryM
    · rw [if_pos c]
      refine ih (j + 1) m _ (by omega) (fun a ha => ?_)
      by_cases e : a = j
      · subst e; rw [pk_us]; exact ⟨fun _ => c, fun _ => pz_10⟩
      · rw [pk_un e]; exact h a (by omega)
    · rw [if_neg c]
      refine ih (j + 1) m _ (by omega) (fun a ha => ?_)
      by_cases e : a = j
      · subst e; rw [pk_us]; exact ⟨fun q => absurd rfl q, fun q => absurd q c⟩
      · rw [pk_un e]; exact h a (by omega)
