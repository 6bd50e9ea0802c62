/-! the two tables of possible counts are one -/
def BD (n : Nat) (f : Nat → Int32) : Prop := ∀ j : Nat, j < n → 0 ≤ (f j).toInt ∧ (f j).toInt ≤ 9999
def sz (f : Nat → Int32) (P : Nat → Bool) (k : Nat) : Int := itN (fun a x => if P a = true then x + (f a).toInt else x) k 0
theorem sz_suc (f : Nat → Int32) (P : Nat → Bool) (k : Nat) : sz f P (k + 1) = if P k = true then sz f P k + (f k).toInt else sz f P k := rfl
theorem sz_bd {n : Nat} {f : Nat → Int32} (h : BD n f) (P : Nat → Bool) : ∀ k : Nat, k ≤ n → 0 ≤ sz f P k ∧ sz f P k ≤ 9999 * k := by
  intro k
  induction k with
  | zero => exact fun _ => ⟨Int.le_refl _, Int.le_refl _⟩
  | succ k ih =>
    intro hk
    have h1 := ih (by omega)
    have h2 := h k (by omega)
    rw [sz_suc]
    split <;> omega
theorem sz_upd {f : Nat → Int32} {P : Nat → Bool} {j : Nat} {x v : Int32} (hx : x.toInt = (f j).toInt - v.toInt) : ∀ k : Nat, sz (upd f j x) P k = sz f P k - if j < k ∧ P j = true then v.toInt else 0 := by
  intro k
  induction k with
  | zero => rw [if_neg (by omega)]; rfl
  | succ k ih =>
    rw [sz_suc, sz_suc, ih]
    by_cases hj : k = j
    · subst hj
      have u1 : upd f k x k = x := by unfold upd; rw [if_pos rfl]
      have d1 : ¬ (k < k ∧ P k = true) := fun q => Nat.lt_irrefl _ q.1
      by_cases hp : P k = true
      · have d2 : k < k + 1 ∧ P k = true := ⟨Nat.lt_succ_self k, hp⟩
        simp only [u1, if_neg d1, if_pos hp, if_pos d2]; omega
      · have d2 : ¬ (k < k + 1 ∧ P k = true) := fun q => hp q.2
        simp only [u1, if_neg d1, if_neg hp, if_neg d2]
    · have u1 : upd f j x k = f k := by unfold upd; rw [if_neg hj]
      by_cases hq : j < k ∧ P j = true
      · have d2 : j < k + 1 ∧ P j = true := ⟨by have := hq.1; omega, hq.2⟩
        simp only [u1, if_pos hq, if_pos d2]; split <;> omega
      · have d2 : ¬ (j < k + 1 ∧ P j = true) := fun q => hq ⟨by have := q.1; omega, q.2⟩
        simp only [u1, if_neg hq, if_neg d2]; split <;> omega
theorem exc_Z {n : Nat} (hn : n ≤ 6) {op : Nat → Nat → Bool} {inf cap : Nat → Int32} (h1 : BD n inf) (h2 : BD n cap) (s : Nat) : ∀ k : Nat, k ≤ n → (exc n op inf cap s k).toInt = sz inf s.testBit k - sz cap (fun b => ldk op s b n) k := by
  intro k
  induction k with
  | zero => intro _; rw [show exc n op inf cap s 0 = nI 0 from rfl, nI_toInt (by decide)]; rfl
  | succ k ih =>
    intro hk
    have i1 := ih (by omega)
    have i2 := h1 k (by omega)
    have i3 := h2 k (by omega)
    have i4 := sz_bd h1 s.testBit k (by omega)
    have i5 := sz_bd h2 (fun b => ldk op s b n) k (by omega)
    have e0 : exc n op inf cap s (k + 1) = if ldk op s k n = true then (if s.testBit k = true then exc n op inf cap s k + inf k else exc n op inf cap s k) - cap k else (if s.testBit k = true then exc n op inf cap s k + inf k else exc n op inf cap s k) := itN_succ _ _ _
    have e1 : (if s.testBit k = true then exc n op inf cap s k + inf k else exc n op inf cap s k).toInt = sz inf s.testBit (k + 1) - sz cap (fun b => ldk op s b n) k := by
      rw [sz_suc]
      split
      · rw [toInt_addS (by omega) (by omega), i1]; omega
      · exact i1
    have i6 := sz_bd h1 s.testBit (k + 1) hk
    rw [e0, sz_suc cap]
    by_cases hl : ldk op s k n = true
    · rw [if_pos hl, if_pos hl, toInt_subS (by omega) (by omega), e1]; omega
    · rw [if_neg hl, if_neg hl]; exact e1
theorem lfL_Z {n : Nat} (hn : n ≤ 6) {op : Nat → Nat → Bool} {oc : Nat → Int32} (h2 : BD n oc) (s : Nat) : ∀ k : Nat, k ≤ n → (lfL n op oc s k).toInt = sz oc (fun b => ldk op s b n) k := by
  intro k
  induction k with
  | zero => intro _; rw [show lfL n op oc s 0 = nI 0 from rfl, nI_toInt (by decide)]; rfl
  | succ k ih =>
    intro hk
    have i1 := ih (by omega)
    have i3 := h2 k (by omega)
    have i5 := sz_bd h2 (fun b => ldk op s b n) k (by omega)
    have e0 : lfL n op oc s (k + 1) = if ldk op s k n = true then lfL n op oc s k + oc k else lfL n op oc s k := itN_succ _ _ _
    rw [e0, sz_suc]
    split
    · rw [toInt_addS (by omega) (by omega), i1]
    · exact i1
theorem lfR_Z {n : Nat} (hn : n ≤ 6) {op : Nat → Nat → Bool} {inf ol oc : Nat → Int32} (h1 : BD n inf) (h2 : BD n oc) (s : Nat) (ho : ∀ a : Nat, a < n → s.testBit a = true → ol a = inf a) : ∀ k : Nat, k ≤ n → (lfR n op ol oc s k).toInt = sz oc (fun b => ldk op s b n) n - sz inf s.testBit k := by
  intro k
  have i5 := sz_bd h2 (fun b => ldk op s b n) n (Nat.le_refl _)
  induction k with
  | zero => intro _; rw [show lfR n op ol oc s 0 = lfL n op oc s n from rfl, lfL_Z hn h2 s n (Nat.le_refl _)]; exact (Int.sub_zero _).symm
  | succ k ih =>
    intro hk
    have i1 := ih (by omega)
    have i3 := h1 k (by omega)
    have i4 := sz_bd h1 s.testBit k (by omega)
    have e0 : lfR n op ol oc s (k + 1) = if s.testBit k = true then lfR n op ol oc s k - ol k else lfR n op ol oc s k := itN_succ _ _ _
    rw [e0, sz_suc]
    by_cases hb : s.testBit k = true
    · rw [if_pos hb, if_pos hb, ho k (by omega) hb, toInt_subS (by omega) (by omega), i1]; omega
    · rw [if_neg hb, if_neg hb]; exact i1
theorem lfD_at (n : Nat) (op : Nat → Nat → Bool) (s j0 : Nat) (hj : j0 < 2 ^ 31) : ∀ k : Nat, k < 2 ^ 31 → lfD n op s j0 k = (decide (j0 < k) && ldk op s j0 n) := by
  intro k
  induction k with
  | zero => intro _; rw [decide_eq_false (by omega)]; rfl
  | succ k ih =>
    intro hk
    have e0 : lfD n op s j0 (k + 1) = (lfD n op s j0 k || (ldk op s k n && decide (nI k = nI j0))) := itN_succ _ _ _
    rw [e0, ih (by omega)]
    by_cases h : k = j0
    · subst h
      rw [decide_eq_false (show ¬ k < k by omega), decide_eq_true (show k < k + 1 by omega), decide_eq_true rfl, Bool.false_and, Bool.false_or, Bool.and_true, Bool.true_and]
    · rw [decide_eq_false (fun q => h ((nI_eq (by omega) (by omega)).mp q)), Bool.and_false, Bool.or_false]
      by_cases h2 : j0 < k
      · rw [decide_eq_true h2, decide_eq_true (show j0 < k + 1 by omega)]
      · rw [decide_eq_false h2, decide_eq_false (show ¬ j0 < k + 1 by omega)]
theorem toInt_negS {x : Int32} (h : -2 ^ 31 < x.toInt) : (-x).toInt = -x.toInt := by
  have h2 := Int32.toInt_lt x
  rw [Int32.toInt_neg]
  exact Int.bmod_eq_of_le (by omega) (by omega)
theorem mn_le {x y : Int32} : (if x ≤ y then x else y) = mnI x y := by
  unfold mnI
  by_cases h : x ≤ y
  · rw [if_pos h, if_neg (Int32.not_lt.mpr h)]
  · rw [if_neg h, if_pos (Int32.not_le.mp h)]
theorem mnI_toInt (x y : Int32) : (mnI x y).toInt = if y.toInt < x.toInt then y.toInt else x.toInt := by
  unfold mnI
  by_cases h : y < x
  · rw [if_pos h, if_pos (Int32.lt_iff_toInt_lt.mp h)]
  · rw [if_neg h, if_neg (fun q => h (Int32.lt_iff_toInt_lt.mpr q))]
theorem mnI_comm (x y : Int32) : mnI x y = mnI y x := by
  apply Int32.toInt_inj.mp
  rw [mnI_toInt, mnI_toInt]
  split <;> split <;> omega
theorem n9999 : (nI 9999).toInt = 9999 := by decide +kernel
theorem sz_congr {oc cap : Nat → Int32} {P : Nat → Bool} {n : Nat} (hc : ∀ b : Nat, b < n → oc b = cap b) : ∀ k : Nat, k ≤ n → sz oc P k = sz cap P k := by
  intro k
  induction k with
  | zero => exact fun _ => (itN_zero _ _).trans (itN_zero _ _).symm
  | succ k ih => intro hk; rw [sz_suc, sz_suc, ih (by omega), hc k (by omega)]
theorem lfR_exc {n : Nat} (hn : n ≤ 6) {op : Nat → Nat → Bool} {inf ol oc cap : Nat → Int32} (h1 : BD n inf) (h2 : BD n cap) (hc : ∀ b : Nat, b < n → oc b = cap b) {s : Nat} (ho : ∀ a : Nat, a < n → s.testBit a = true → ol a = inf a) : lfR n op ol oc s n = -(exc n op inf cap s n) := by
  have h2' : BD n oc := fun b hb => by rw [hc b hb]; exact h2 b hb
  apply Int32.toInt_inj.mp
  have e1 := exc_Z (op := op) hn h1 h2 s n (Nat.le_refl _)
  have i4 := sz_bd h1 s.testBit n (Nat.le_refl _)
  have i5 := sz_bd h2 (fun b => ldk op s b n) n (Nat.le_refl _)
  have e2 : sz oc (fun b => ldk op s b n) n = sz cap (fun b => ldk op s b n) n := sz_congr hc n (Nat.le_refl _)
  have e3 : -2 ^ 31 < (exc n op inf cap s n).toInt := by rw [e1]; omega
  rw [lfR_Z hn h1 h2' s ho n (Nat.le_refl _), toInt_negS e3, e1, e2]
  omega
theorem mn_9999 {x : Int32} (hx : x.toInt ≤ 9999) : mnI x (nI 9999) = x := by
  apply Int32.toInt_inj.mp
  rw [mnI_toInt, n9999, if_neg (by omega)]
theorem lfB_at {n : Nat} (hn : n ≤ 6) {op : Nat → Nat → Bool} {ol oc : Nat → Int32} {s j : Nat} (hj : j < n) : lfB n op ol oc s j = if ldk op s j n = true then lfR n op ol oc s n else nI 9999 := by
  unfold lfB
  rw [lfD_at n op s j (by omega) n (by omega), decide_eq_true hj, Bool.true_and]
theorem lf_step {n : Nat} (hn : n ≤ 6) {op : Nat → Nat → Bool} {inf ol oc cap : Nat → Int32} (h1 : BD n inf) (h2 : BD n cap) (hc : ∀ b : Nat, b < n → oc b = cap b) {s j : Nat} (hj : j < n) (ho : ∀ a : Nat, a < n → s.testBit a = true → ol a = inf a) {x : Int32} (hx : x.toInt ≤ 9999) :
    (if x ≤ lfB n op ol oc s j then x else lfB n op ol oc s j) = if ldk op s j n = true then mnI x (-(exc n op inf cap s n)) else x := by
  rw [mn_le, lfB_at hn hj]
  by_cases hl : ldk op s j n = true
  · rw [if_pos hl, if_pos hl, lfR_exc hn h1 h2 hc ho]
  · rw [if_neg hl, if_neg hl]; exact mn_9999 hx
theorem it_mult {α : Type} {K : Nat} (hK : 0 < K) (g : Nat → α → α) (a : α) : ∀ M : Nat, itN (fun s x => if s % K = 0 then g s x else x) (M * K) a = itN (fun m x => g (m * K) x) M a := by
  intro M
  induction M with
  | zero => rw [Nat.zero_mul]; rfl
  | succ M ih =>
    have h : ∀ r : Nat, r < K → itN (fun s x => if s % K = 0 then g s x else x) (M * K + (r + 1)) a = g (M * K) (itN (fun s x => if s % K = 0 then g s x else x) (M * K) a) := by
      intro r
      induction r with
      | zero =>
        intro _
        rw [← Nat.add_assoc, itN_succ]
        exact if_pos (Nat.mul_mod_left M K)
      | succ r ihr =>
        intro hr
        rw [← Nat.add_assoc, itN_succ, if_neg, ihr (by omega)]
        rw [Nat.add_comm, Nat.add_mul_mod_self_right, Nat.mod_eq_of_lt hr]
        omega
    have e1 : (M + 1) * K = M * K + (K - 1 + 1) := by rw [Nat.succ_mul]; omega
    rw [e1, h (K - 1) (by omega), ih]
    rfl
theorem it_shift {α : Type} (g : Nat → α → α) (a : α) : ∀ M : Nat, itN g (M + 1) a = itN (fun m x => g (m + 1) x) M (g 0 a) := by
  intro M
  induction M with
  | zero => rfl
  | succ M ih => rw [itN_succ, ih]; rfl
