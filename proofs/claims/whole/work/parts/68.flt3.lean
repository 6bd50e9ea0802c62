def sumD (f : Nat → UInt64) (k : Nat) : UInt64 := itN (fun j s => FP.dadd s (f j)) k FP.dconst0
theorem sumD_suc (f : Nat → UInt64) (k : Nat) : sumD f (k + 1) = FP.dadd (sumD f k) (f k) := itN_succ _ _ _
theorem sumD_zero (f : Nat → UInt64) : sumD f 0 = FP.dconst0 := itN_zero _ _
theorem P1_eq : P1 = 2 ^ 1074 := rfl
theorem sumD_bd {f : Nat → UInt64} {n t : Nat} (ht : t ≤ 2045) (hn : n ≤ 6) (h : ∀ j : Nat, j < n → NF (f j) ∧ Zu (f j) ≤ 2 ^ t) : ∀ k : Nat, k ≤ n → NF (sumD f k) ∧ Zu (sumD f k) ≤ k * 2 ^ t ∧ ∀ j : Nat, j < k → Zu (f j) ≤ Zu (sumD f k) := by
  intro k
  induction k with
  | zero =>
    intro _
    rw [sumD_zero]
    exact ⟨NF_zero, by rw [Zu_zero]; exact Nat.zero_le _, fun j hj => absurd hj (Nat.not_lt_zero j)⟩
  | succ k ih =>
    intro hk
    obtain ⟨a1, a2, a3⟩ := ih (by omega)
    obtain ⟨b1, b2⟩ := h k (by omega)
    rw [sumD_suc]
    obtain ⟨c1, c2⟩ := add_le a1 b1 (M := (k + 1) * 2 ^ t) (RP_pow (by omega) ht) (by rw [Nat.succ_mul]; exact Nat.add_le_add a2 b2)
    refine ⟨c1, c2, fun j hj => ?_⟩
    by_cases hq : j = k
    · subst hq
      exact add_ge a1 b1 b1.rp (Nat.le_add_left _ _)
    · exact Nat.le_trans (a3 j (by omega)) (add_ge a1 b1 a1.rp (Nat.le_add_right _ _))
theorem sumD_no {f : Nat → UInt64} {n : Nat} (h : ∀ j : Nat, j < n → NF (f j) ∧ Zu (f j) = 0) : ∀ k : Nat, k ≤ n → NF (sumD f k) ∧ Zu (sumD f k) = 0 := by
  intro k
  induction k with
  | zero => intro _; rw [sumD_zero]; exact ⟨NF_zero, Zu_zero⟩
  | succ k ih =>
    intro hk
    obtain ⟨a1, a2⟩ := ih (by omega)
    obtain ⟨b1, b2⟩ := h k (by omega)
    rw [sumD_suc]
    obtain ⟨c1, c2⟩ := add_le a1 b1 (M := 0) (by have := RP_pow (c := 0) (k := 0) (by decide) (by decide); rw [Nat.zero_mul] at this; exact this) (by omega)
    exact ⟨c1, by omega⟩
theorem pow_up {X S : Nat} (hS : 0 < S) : ∃ m : Nat, X ≤ 2 ^ m * S ∧ (m = 0 ∨ (0 < m ∧ 2 ^ (m - 1) * S < X)) := by
  have key : ∀ k : Nat, X ≤ 2 ^ k * S → ∃ m : Nat, X ≤ 2 ^ m * S ∧ (m = 0 ∨ (0 < m ∧ 2 ^ (m - 1) * S < X)) := by
    intro k
    induction k with
    | zero => intro h; exact ⟨0, h, Or.inl rfl⟩
    | succ k ih =>
      intro h
      by_cases h2 : X ≤ 2 ^ k * S
      · exact ih h2
      · exact ⟨k + 1, h, Or.inr ⟨by omega, by rw [Nat.add_sub_cancel]; omega⟩⟩
  refine key X ?_
  have h1 : X < 2 ^ X := Nat.lt_two_pow_self
  exact Nat.le_trans (Nat.le_of_lt h1) (Nat.le_mul_of_pos_right _ hS)
theorem pow_low {X : Nat} (hX : 0 < X) : ∃ c : Nat, 2 ^ c ≤ X ∧ X < 2 ^ (c + 1) := ⟨X.log2, Nat.log2_self_le (by omega), Nat.lt_log2_self⟩
theorem max_at {g : Nat → Nat} : ∀ n : Nat, 0 < n → ∃ j : Nat, j < n ∧ ∀ k : Nat, k < n → g k ≤ g j := by
  intro n
  induction n with
  | zero => intro h; omega
  | succ n ih =>
    intro _
    rcases Nat.eq_zero_or_pos n with h0 | h0
    · subst h0; exact ⟨0, by omega, fun k hk => by rw [show k = 0 by omega]; exact Nat.le_refl _⟩
    · obtain ⟨j, h1, h2⟩ := ih h0
      by_cases h : g j ≤ g n
      · refine ⟨n, by omega, fun k hk => ?_⟩
        by_cases hq : k = n
        · rw [hq]; exact Nat.le_refl _
        · exact Nat.le_trans (h2 k (by omega)) h
      · refine ⟨j, by omega, fun k hk => ?_⟩
        by_cases hq : k = n
        · rw [hq]; omega
        · exact h2 k (by omega)
theorem RP_two {m : Nat} (h : m ≤ 2045) : RP (2 ^ m) := by
  have := RP_pow (c := 1) (k := m) (by decide) h
  rw [Nat.one_mul] at this; exact this
theorem RP_0 : RP 0 := by
  have := RP_pow (c := 0) (k := 0) (by decide) (by decide)
  rw [Nat.zero_mul] at this; exact this
/-- what a step of a round does to its row or column -/
def SCf (f : Nat → UInt64) (n : Nat) (a : Int32) (F : UInt64) : Prop :=
  NF F ∧ (∀ j : Nat, j < n → NF (FP.dmul (f j) F) ∧ Zu (FP.dmul (f j) F) ≤ 2 ^ 1089) ∧
  (1 ≤ a.toInt → ∀ j u : Nat, j < n → u + 18 ≤ 1090 → 2 ^ (u + 18) ≤ Zu (f j) → 2 ^ u ≤ Zu (FP.dmul (f j) F)) ∧
  (1 ≤ a.toInt → ∃ j : Nat, j < n ∧ 2 ^ 1070 ≤ Zu (FP.dmul (f j) F)) ∧
  (a.toInt = 0 → ∀ j : Nat, j < n → Zu (FP.dmul (f j) F) = 0) ∧
  ∀ j : Nat, j < n → Zu (f j) = 0 → Zu (FP.dmul (f j) F) = 0
theorem sc_of {f : Nat → UInt64} {n : Nat} (hn : 1 ≤ n ∧ n ≤ 6) {a : Int32} (ha : 0 ≤ a.toInt ∧ a.toInt ≤ 9999) (h : ∀ j : Nat, j < n → NF (f j) ∧ Zu (f j) ≤ 2 ^ 1089) {j0 : Nat} (hj0 : j0 < n) (hb : 2 ^ 1020 ≤ Zu (f j0)) : SCf f n a (FP.ddiv (FP.i2d a) (sumD f n)) := by
  obtain ⟨s1, s2, s3⟩ := sumD_bd (t := 1089) (by decide) hn.2 h n (Nat.le_refl _)
  obtain ⟨i1, i2⟩ := i2d_Z ha.1
  have hS0 : 2 ^ 1020 ≤ Zu (sumD f n) := Nat.le_trans hb (s3 j0 hj0)
  have hS : 0 < Zu (sumD f n) := Nat.lt_of_lt_of_le (Nat.two_pow_pos _) hS0
  obtain ⟨A, hA⟩ : ∃ A : Nat, A = a.toInt.toNat := ⟨_, rfl⟩
  have hA2 : A ≤ 2 ^ 14 := by rw [hA]; omega
  rw [← hA] at i2
  have hXle : A * P1 * P1 ≤ 2 ^ 2162 := by
    rw [P1_eq, Nat.mul_assoc, ← Nat.pow_add, show (2 : Nat) ^ 2162 = 2 ^ 14 * 2 ^ (1074 + 1074) from by rw [← Nat.pow_add]]
    exact Nat.mul_le_mul_right _ hA2
  obtain ⟨m, hm1, hm2⟩ := pow_up (X := A * P1 * P1) hS
  have hm3 : m ≤ 1200 := by
    rcases hm2 with h0 | ⟨h0, h1⟩
    · omega
    · have h2 : 2 ^ (m - 1) * 2 ^ 1020 < 2 ^ 2162 := Nat.lt_of_le_of_lt (Nat.mul_le_mul_left _ hS0) (Nat.lt_of_lt_of_le h1 hXle)
      rw [← Nat.pow_add] at h2
      have := (Nat.pow_lt_pow_iff_right (by decide : 1 < 2)).mp h2
      omega
  obtain ⟨f1, f2⟩ := div_le i1 s1 hS (M := 2 ^ m) (RP_two (by omega)) (by rw [i2]; exact hm1)
  generalize hF : FP.ddiv (FP.i2d a) (sumD f n) = F at *
  generalize hSe : Zu (sumD f n) = S at *
  have hSF : S * Zu F ≤ 2 ^ 1089 * P1 := by
    refine Nat.le_trans (Nat.mul_le_mul_left S f2) ?_
    rcases hm2 with h0 | ⟨h0, h1⟩
    · rw [h0, Nat.pow_zero, Nat.mul_one]
      refine Nat.le_trans s2 ?_
      rw [Nat.mul_comm]
      refine Nat.mul_le_mul_left _ (Nat.le_trans hn.2 ?_)
      rw [P1_eq]
      exact Nat.le_trans (show 6 ≤ 2 ^ 3 by decide) (Nat.pow_le_pow_right (by decide) (by decide))
    · have e1 : S * 2 ^ m = 2 * (2 ^ (m - 1) * S) := by
        rw [show 2 ^ m = 2 * 2 ^ (m - 1) from by rw [Nat.mul_comm, ← Nat.pow_succ]; congr 1; omega, Nat.mul_comm S, Nat.mul_assoc]
      rw [e1]
      refine Nat.le_trans (Nat.mul_le_mul_left 2 (Nat.le_of_lt h1)) ?_
      rw [show (2 : Nat) ^ 1089 = 2 * 2 ^ 14 * 2 ^ 1074 from by rw [show (2 : Nat) * 2 ^ 14 = 2 ^ 15 by decide, ← Nat.pow_add], ← P1_eq, Nat.mul_assoc 2, Nat.mul_assoc 2]
      exact Nat.mul_le_mul_left 2 (Nat.mul_le_mul_right _ (Nat.mul_le_mul_right _ hA2))
  have hmul : ∀ j : Nat, j < n → NF (FP.dmul (f j) F) ∧ Zu (FP.dmul (f j) F) ≤ 2 ^ 1089 := fun j hj =>
    mul_le (h j hj).1 f1 (RP_two (by decide)) (Nat.le_trans (Nat.mul_le_mul_right _ (s3 j hj)) hSF)
  have hge : 1 ≤ a.toInt → ∀ k : Nat, k ≤ 2045 → 2 ^ k * S ≤ P1 * P1 → 2 ^ k ≤ Zu F := by
    intro h1 k hk hkS
    have hF2 := div_ge i1 s1 (by rw [hSe]; exact hS) (M := 2 ^ k) (RP_two hk) (by
      rw [hSe, i2]
      refine Nat.le_trans hkS ?_
      rw [Nat.mul_assoc]
      exact Nat.le_mul_of_pos_left _ (by rw [hA]; omega))
    rw [hF] at hF2; exact hF2
  refine ⟨f1, hmul, fun h1 j u hj hu hz => ?_, fun h1 => ?_, fun h1 j hj => ?_, fun j hj hz => ?_⟩
  · have hF3 := hge h1 1056 (by decide) (by
      refine Nat.le_trans (Nat.mul_le_mul_left _ s2) ?_
      rw [P1_eq, ← Nat.pow_add, Nat.mul_left_comm, ← Nat.pow_add]
      refine Nat.le_trans (Nat.mul_le_mul_right _ (Nat.le_trans hn.2 (show 6 ≤ 2 ^ 3 by decide))) ?_
      rw [← Nat.pow_add]
      exact Nat.le_refl _)
    refine mul_ge (h j hj).1 f1 (RP_two (by omega)) ?_
    refine Nat.le_trans ?_ (Nat.mul_le_mul hz hF3)
    rw [P1_eq, ← Nat.pow_add, ← Nat.pow_add]
    exact Nat.pow_le_pow_right (by decide) (by omega)
  · obtain ⟨j, hj, hmx⟩ := max_at (g := fun j => Zu (f j)) n hn.1
    have hX : 2 ^ 1020 ≤ Zu (f j) := Nat.le_trans hb (hmx j0 hj0)
    obtain ⟨c, hc1, hc2⟩ := pow_low (Nat.lt_of_lt_of_le (Nat.two_pow_pos 1020) hX)
    have hc3 : 1020 ≤ c := by
      have := (Nat.pow_lt_pow_iff_right (by decide : 1 < 2)).mp (Nat.lt_of_le_of_lt hX hc2)
      omega
    have hc4 : c ≤ 1089 := (Nat.pow_le_pow_iff_right (by decide : 1 < 2)).mp (Nat.le_trans hc1 (h j hj).2)
    obtain ⟨-, t2, -⟩ := sumD_bd (f := f) (t := c + 1) (by omega) hn.2 (fun k hk => ⟨(h k hk).1, Nat.le_trans (hmx k hk) (Nat.le_of_lt hc2)⟩) n (Nat.le_refl _)
    rw [hSe] at t2
    have hF3 := hge h1 (2144 - c) (by omega) (by
      refine Nat.le_trans (Nat.mul_le_mul_left _ t2) ?_
      rw [P1_eq, ← Nat.pow_add, Nat.mul_left_comm, ← Nat.pow_add]
      refine Nat.le_trans (Nat.mul_le_mul_right _ (Nat.le_trans hn.2 (show 6 ≤ 2 ^ 3 by decide))) ?_
      rw [← Nat.pow_add]
      exact Nat.pow_le_pow_right (by decide) (by omega))
    refine ⟨j, hj, mul_ge (h j hj).1 f1 (RP_two (by decide)) ?_⟩
    refine Nat.le_trans ?_ (Nat.mul_le_mul hc1 hF3)
    rw [P1_eq, ← Nat.pow_add, ← Nat.pow_add]
    exact Nat.pow_le_pow_right (by decide) (by omega)
  · have hF0 := (div_le i1 s1 (by rw [hSe]; exact hS) (M := 0) RP_0 (by rw [i2, show A = 0 by rw [hA, h1]; rfl, Nat.zero_mul, Nat.zero_mul, Nat.zero_mul]; exact Nat.le_refl _)).2
    rw [hF] at hF0
    have := (mul_le (h j hj).1 f1 (M := 0) RP_0 (by rw [show Zu F = 0 by omega, Nat.mul_zero]; exact Nat.zero_le _)).2
    omega
  · have := (mul_le (h j hj).1 f1 (M := 0) RP_0 (by rw [hz, Nat.zero_mul]; exact Nat.zero_le _)).2
    omega
