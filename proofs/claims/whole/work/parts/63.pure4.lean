theorem gpK_suc (n : Nat) (op : Nat → Nat → Bool) (inf ol : Nat → Int32) (i j : Nat) (x0 : Int32) (k : Nat) : gpK n op inf ol i j x0 (k + 1) = if ldk op ((k + 1) * 2 ^ (i + 1)) j n = true then mnI (gpK n op inf ol i j x0 k) (-(exc n op inf ol ((k + 1) * 2 ^ (i + 1)) n)) else gpK n op inf ol i j x0 k := itN_succ _ _ _
theorem gpK_zero (n : Nat) (op : Nat → Nat → Bool) (inf ol : Nat → Int32) (i j : Nat) (x0 : Int32) : gpK n op inf ol i j x0 0 = mnI x0 (ol j) := itN_zero _ _
theorem mn_bd (x y : Int32) : (mnI x y).toInt ≤ x.toInt ∧ (mnI x y).toInt ≤ y.toInt ∧ ((mnI x y).toInt = x.toInt ∨ (mnI x y).toInt = y.toInt) := by
  rw [mnI_toInt]
  split <;> omega
theorem gpK_le (n : Nat) (op : Nat → Nat → Bool) (inf ol : Nat → Int32) (i j : Nat) (x0 : Int32) : ∀ k : Nat, (gpK n op inf ol i j x0 k).toInt ≤ x0.toInt ∧ (gpK n op inf ol i j x0 k).toInt ≤ (ol j).toInt := by
  intro k
  induction k with
  | zero => rw [gpK_zero]; have := mn_bd x0 (ol j); omega
  | succ k ih =>
    rw [gpK_suc]
    split
    · have := mn_bd (gpK n op inf ol i j x0 k) (-(exc n op inf ol ((k + 1) * 2 ^ (i + 1)) n)); omega
    · exact ih
def NC (n : Nat) (op : Nat → Nat → Bool) (inf ol : Nat → Int32) (i : Nat) : Prop := ∀ s : Nat, s < 2 ^ n → s % 2 ^ (i + 1) = 0 → sz inf s.testBit n ≤ sz ol (fun b => ldk op s b n) n
theorem neg_exc {n : Nat} (hn : n ≤ 6) {op : Nat → Nat → Bool} {inf ol : Nat → Int32} (h1 : BD n inf) (h2 : BD n ol) (s : Nat) : (-(exc n op inf ol s n)).toInt = sz ol (fun b => ldk op s b n) n - sz inf s.testBit n := by
  have e1 := exc_Z (op := op) hn h1 h2 s n (Nat.le_refl _)
  have i4 := sz_bd h1 s.testBit n (Nat.le_refl _)
  have i5 := sz_bd h2 (fun b => ldk op s b n) n (Nat.le_refl _)
  have e3 : -2 ^ 31 < (exc n op inf ol s n).toInt := by rw [e1]; omega
  rw [toInt_negS e3, e1]; omega
theorem gpK_ge {n : Nat} (hn : n ≤ 6) {op : Nat → Nat → Bool} {inf ol : Nat → Int32} (h1 : BD n inf) (h2 : BD n ol) {i j : Nat} (hi : i < n) (hj : j < n) (hc : NC n op inf ol i) {x0 : Int32} (hx : 0 ≤ x0.toInt) : ∀ k : Nat, k ≤ 2 ^ (n - 1 - i) - 1 → 0 ≤ (gpK n op inf ol i j x0 k).toInt ∧ ∀ m : Nat, m < k → ldk op ((m + 1) * 2 ^ (i + 1)) j n = true → (gpK n op inf ol i j x0 k).toInt ≤ sz ol (fun b => ldk op ((m + 1) * 2 ^ (i + 1)) b n) n - sz inf ((m + 1) * 2 ^ (i + 1)).testBit n := by
  intro k
  induction k with
  | zero =>
    intro _
    have h3 := mn_bd x0 (ol j)
    have h4 := h2 j hj
    rw [gpK_zero]
    exact ⟨by omega, fun m hm => by omega⟩
  | succ k ih =>
    intro hk
    obtain ⟨a1, a2⟩ := ih (by omega)
    have e1 := neg_exc hn h1 h2 (op := op) ((k + 1) * 2 ^ (i + 1))
    have e2 := hc ((k + 1) * 2 ^ (i + 1)) (gp_lt hi (by omega)) (Nat.mul_mod_left _ _)
    have e3 := mn_bd (gpK n op inf ol i j x0 k) (-(exc n op inf ol ((k + 1) * 2 ^ (i + 1)) n))
    rw [gpK_suc]
    by_cases hl : ldk op ((k + 1) * 2 ^ (i + 1)) j n = true
    · rw [if_pos hl]
      refine ⟨by omega, fun m hm hm2 => ?_⟩
      by_cases hq : m = k
      · subst hq; omega
      · have := a2 m (by omega) hm2; omega
    · rw [if_neg hl]
      refine ⟨a1, fun m hm hm2 => ?_⟩
      by_cases hq : m = k
      · subst hq; exact absurd hm2 hl
      · exact a2 m (by omega) hm2
theorem low_bit {s i a : Nat} (h : s % 2 ^ (i + 1) = 0) (ha : s.testBit a = true) : i < a := by
  rcases Nat.lt_or_ge i a with h1 | h1
  · exact h1
  · have h2 := Nat.testBit_mod_two_pow s (i + 1) a
    rw [h, Nat.zero_testBit, ha, decide_eq_true (by omega)] at h2
    cases h2
theorem ldk_zero (op : Nat → Nat → Bool) (b : Nat) : ∀ k : Nat, ldk op 0 b k = false := by
  intro k
  induction k with
  | zero => exact itN_zero _ _
  | succ k ih =>
    have e0 : ldk op 0 b (k + 1) = (ldk op 0 b k || ((0 : Nat).testBit k && op k b)) := itN_succ _ _ _
    rw [e0, ih, Nat.zero_testBit, Bool.false_and, Bool.or_false]
theorem gps_lcV {n : Nat} (hn : n ≤ 6) {op : Nat → Nat → Bool} {inf ol rl oc : Nat → Int32} (h1 : BD n inf) (h2 : BD n ol) {i j : Nat} (hi : i < n) (hj : j < n) (hc : ∀ b : Nat, b < n → oc b = ol b) {x0 : Int32} (hr : rl i = x0) (ho : ∀ a : Nat, i < a → a < n → rl a = inf a) (hx : x0.toInt ≤ 9999) : gps n op inf ol i j x0 = lcV n op rl oc i j := by
  unfold gps lcV
  by_cases hop : op i j = true
  · rw [if_pos hop, if_pos hop]
    have e0 : lcK n op rl oc i j (2 ^ n) = itN (fun s x => if s % 2 ^ (i + 1) = 0 then (fun s x => if x ≤ lfB n op rl oc s j then x else lfB n op rl oc s j) s x else x) (2 ^ n) (mnI x0 (ol j)) := by
      unfold lcK
      rw [mn_le, hr, hc j hj, mnI_comm]
    obtain ⟨M, hM⟩ : ∃ M, 2 ^ (n - 1 - i) = M + 1 := ⟨2 ^ (n - 1 - i) - 1, by have := Nat.one_le_two_pow (n := n - 1 - i); omega⟩
    have hs : ∀ m : Nat, ∀ a : Nat, a < n → (m * 2 ^ (i + 1)).testBit a = true → rl a = inf a := fun m a ha hb => ho a (low_bit (Nat.mul_mod_left _ _) hb) ha
    rw [e0, ← gp_split hi, it_mult (Nat.two_pow_pos _), hM, it_shift]
    have g0 : (if mnI x0 (ol j) ≤ lfB n op rl oc (0 * 2 ^ (i + 1)) j then mnI x0 (ol j) else lfB n op rl oc (0 * 2 ^ (i + 1)) j) = mnI x0 (ol j) := by
      rw [lf_step hn h1 h2 hc hj (hs 0) (by have := mn_bd x0 (ol j); omega), Nat.zero_mul, ldk_zero, if_neg (by decide)]
    have key : ∀ k : Nat, gpK n op inf ol i j x0 k = itN (fun m x => (fun s x => if x ≤ lfB n op rl oc s j then x else lfB n op rl oc s j) ((m + 1) * 2 ^ (i + 1)) x) k (mnI x0 (ol j)) := by
      intro k
      induction k with
      | zero => rw [gpK_zero, itN_zero]
      | succ k ih =>
        rw [itN_succ, ← ih, gpK_suc]
        exact (lf_step hn h1 h2 hc hj (hs (k + 1)) (by have := (gpK_le n op inf ol i j x0 k).1; omega)).symm
    rw [Nat.add_sub_cancel, key M]
    show itN _ M (mnI x0 (ol j)) = itN _ M (if mnI x0 (ol j) ≤ lfB n op rl oc (0 * 2 ^ (i + 1)) j then mnI x0 (ol j) else lfB n op rl oc (0 * 2 ^ (i + 1)) j)
    rw [g0]
  · rw [if_neg hop, if_neg hop]
theorem gps_bd {n : Nat} (hn : n ≤ 6) {op : Nat → Nat → Bool} {inf ol : Nat → Int32} (h1 : BD n inf) (h2 : BD n ol) {i j : Nat} (hi : i < n) (hj : j < n) (hc : NC n op inf ol i) {x0 : Int32} (hx : 0 ≤ x0.toInt) : 0 ≤ (gps n op inf ol i j x0).toInt ∧ (gps n op inf ol i j x0).toInt ≤ x0.toInt ∧ (gps n op inf ol i j x0).toInt ≤ (ol j).toInt ∧ NC n op inf (upd ol j (ol j - gps n op inf ol i j x0)) i := by
  have hz : (nI 0).toInt = 0 := nI_toInt (by decide)
  have h3 := h2 j hj
  have main : 0 ≤ (gps n op inf ol i j x0).toInt ∧ (gps n op inf ol i j x0).toInt ≤ x0.toInt ∧ (gps n op inf ol i j x0).toInt ≤ (ol j).toInt ∧ ∀ s : Nat, s < 2 ^ n → s % 2 ^ (i + 1) = 0 → ldk op s j n = true → (gps n op inf ol i j x0).toInt ≤ sz ol (fun b => ldk op s b n) n - sz inf s.testBit n := by
    unfold gps
    by_cases hop : op i j = true
    · rw [if_pos hop]
      have a1 := gpK_ge hn h1 h2 hi hj hc hx _ (Nat.le_refl _)
      have a2 := gpK_le n op inf ol i j x0 (2 ^ (n - 1 - i) - 1)
      refine ⟨a1.1, a2.1, a2.2, fun s hs hm hl => ?_⟩
      obtain ⟨m, hm2⟩ : ∃ m, s = m * 2 ^ (i + 1) := ⟨s / 2 ^ (i + 1), by have := Nat.div_add_mod s (2 ^ (i + 1)); rw [hm, Nat.add_zero, Nat.mul_comm] at this; exact this.symm⟩
      cases m with
      | zero => rw [hm2, Nat.zero_mul, ldk_zero] at hl; cases hl
      | succ m =>
        subst hm2
        refine a1.2 m ?_ hl
        have h5 : (m + 1) * 2 ^ (i + 1) < 2 ^ (n - 1 - i) * 2 ^ (i + 1) := by rw [gp_split hi]; exact hs
        have h6 := Nat.lt_of_mul_lt_mul_right h5
        omega
    · rw [if_neg hop, hz]
      exact ⟨Int.le_refl _, hx, h3.1, fun s hs hm hl => by have := hc s hs hm; omega⟩
  obtain ⟨b1, b2, b3, b4⟩ := main
  refine ⟨b1, b2, b3, fun s hs hm => ?_⟩
  rw [sz_upd (v := gps n op inf ol i j x0) (toInt_subS (by omega) (by omega))]
  have h5 := hc s hs hm
  by_cases hl : ldk op s j n = true
  · have h6 := b4 s hs hm hl
    rw [if_pos ⟨hj, hl⟩]; omega
  · rw [if_neg (fun q => hl q.2)]; omega
