theorem dgI_congr {w : Nat → Nat → Int32} {e : Nat → Nat → UInt64} {rt rt' pt pt' : Nat → Nat → Int32} {n i : Nat} (hi : i < n) (h1 : ∀ a b : Nat, a < n → b < n → rt a b = rt' a b) (h2 : ∀ a b : Nat, a < n → b < n → pt a b = pt' a b) (h : Int64) : ∀ k : Nat, k ≤ n → dgI w e rt pt i k h = dgI w e rt' pt' i k h := by
  intro k
  induction k with
  | zero => exact fun _ => (itN_zero _ _).trans (itN_zero _ _).symm
  | succ k ih =>
    intro hk
    have e1 : ∀ rt pt : Nat → Nat → Int32, dgI w e rt pt i (k + 1) h = mxT (dgI w e rt pt i k h) (w i k) (FP.d2l (FP.dmul (e i k) 4652007308841189376)) (rt i k) (pt i k) := fun _ _ => itN_succ _ _ _
    rw [e1, e1, ih (by omega), h1 i k hi (by omega), h2 i k hi (by omega)]
theorem dgO_congr {w : Nat → Nat → Int32} {e : Nat → Nat → UInt64} {rt rt' pt pt' : Nat → Nat → Int32} {n : Nat} (h1 : ∀ a b : Nat, a < n → b < n → rt a b = rt' a b) (h2 : ∀ a b : Nat, a < n → b < n → pt a b = pt' a b) (h : Int64) : ∀ k : Nat, k ≤ n → dgO w e rt pt n k h = dgO w e rt' pt' n k h := by
  intro k
  induction k with
  | zero => exact fun _ => (itN_zero _ _).trans (itN_zero _ _).symm
  | succ k ih =>
    intro hk
    have e1 : ∀ rt pt : Nat → Nat → Int32, dgO w e rt pt n (k + 1) h = dgI w e rt pt k n (dgO w e rt pt n k h) := fun _ _ => itN_succ _ _ _
    rw [e1, e1, ih (by omega), dgI_congr (by omega) h1 h2 _ n (Nat.le_refl _)]
theorem dig_eq {n : Nat} (hn : 3 ≤ n ∧ n ≤ 6) {rC : Int32} {inf out : Nat → Int32} {w : Nat → Nat → Int32} {e : Nat → Nat → UInt64} (hI : BD n inf) (hO : BD n out) (hF : ∀ i : Nat, i < n → FX n inf e i) (s t : RT) (pt pt' : Nat → Nat → Int32) :
    dgst n (opn w) rC inf out w e (rall (opn w) n inf e n s).1 (tbO n (opn w) inf (psb n (opn w) inf out) n (pt, out)).1 = 31 * (31 * (31 * (31 * (31 * (31 * dgO w e (ralM (opn w) n inf e n t).1 (if psb n (opn w) inf out = true then (ltO n (opn w) n (pt', inf, out)).1 else noT) n n (dgA inf out n (31 * 1873 + Int32.toInt64 (nI n))) + (dif n inf out).toInt64) + (crd n (opn w) inf out).toInt64) + rC.toInt64) + FP.d2l (FP.dmul (misK n inf out e n) 4652007308841189376)) + (busO e n n).1.toInt64) + (mrD n (ralM (opn w) n inf e n (ralM (opn w) n inf e n t)).1 out n).toInt64 := by
  have h1 : ∀ a b : Nat, a < n → b < n → (rall (opn w) n inf e n s).1 a b = (ralM (opn w) n inf e n t).1 a b := fun a b ha hb => rall_eq hn.2 hF hI s t n (Nat.le_refl _) a b ha hb
  have h2 : ∀ a b : Nat, a < n → b < n → (tbO n (opn w) inf (psb n (opn w) inf out) n (pt, out)).1 a b = (if psb n (opn w) inf out = true then (ltO n (opn w) n (pt', inf, out)).1 else noT) a b := fun a b ha hb => by
    rw [tab_all hn hI hO pt pt' ha hb]
    split <;> rfl
  have h3 : rdf n (rall (opn w) n inf e n s).1 out n = mrD n (ralM (opn w) n inf e n (ralM (opn w) n inf e n t)).1 out n := rmis_eq hn.2 hF hI s _
  unfold dgst
  rw [dgO_congr h1 h2 _ n (Nat.le_refl _), h3]
theorem scO_all (p : Int32) (f : Nat → Int32) : ∀ k a : Nat, scO p k f a = if a < k then scl (f a) p else f a := by
  intro k
  induction k with
  | zero => intro a; rw [if_neg (by omega)]; exact congrFun (itN_zero _ _) a
  | succ k ih =>
    intro a
    have e1 : scO p (k + 1) f = upd (scO p k f) k (scl (scO p k f k) p) := itN_succ _ _ _
    rw [e1]
    unfold upd
    by_cases h : a = k
    · rw [if_pos h, if_pos (by omega), ih, if_neg (by omega), h]
    · rw [if_neg h, ih]
      by_cases h2 : a < k
      · rw [if_pos h2, if_pos (by omega)]
      · rw [if_neg h2, if_neg (by omega)]
theorem msc_eq {inf : Nat → Int32} {x : Int32} {n : Nat} : ∀ k : Nat, k ≤ n → mscS inf x k = sumI (scO x n inf) k := by
  intro k
  induction k with
  | zero => exact fun _ => (itN_zero _ _).trans (itN_zero _ _).symm
  | succ k ih =>
    intro hk
    have e1 : mscS inf x (k + 1) = mscS inf x k + scl (scO x k inf k) x := itN_succ _ _ _
    have e2 : sumI (scO x n inf) (k + 1) = sumI (scO x n inf) k + scO x n inf k := itN_succ _ _ _
    rw [e1, e2, ih (by omega), scO_all, scO_all, if_neg (by omega), if_pos (by omega)]
theorem slB_t {inf out : Nat → Int32} {x : Int32} : ∀ n : Nat, slB inf out x n = true → ∀ k : Nat, k < n → scl (inf k) x ≤ nI 9999 ∧ scl (out k) x ≤ nI 9999 := by
  intro n
  induction n with
  | zero => intro _ k hk; omega
  | succ n ih =>
    intro h k hk
    have e1 : slB inf out x (n + 1) = (slB inf out x n && (!decide (nI 9999 < scl (inf n) x) && !decide (nI 9999 < scl (out n) x))) := itN_succ _ _ _
    rw [e1, Bool.and_eq_true, Bool.and_eq_true] at h
    by_cases hq : k = n
    · subst hq
      refine ⟨Int32.not_lt.mp (fun q => ?_), Int32.not_lt.mp (fun q => ?_)⟩
      · have := h.2.1; rw [decide_eq_true q] at this; cases this
      · have := h.2.2; rw [decide_eq_true q] at this; cases this
    · exact ih h.1 k (by omega)
theorem wth_t {v : Int32} {a b : Nat} (hb : b < 2 ^ 31) (h : wth v (nI a) (nI b) = true) (ha : a < 2 ^ 31) : ∃ m : Nat, a ≤ m ∧ m ≤ b ∧ v = nI m := by
  have h1 := wth_t1 h
  have h2 := wth_t2 h
  rw [Int32.lt_iff_toInt_lt, nI_toInt ha] at h1
  rw [Int32.le_iff_toInt_le, nI_toInt hb] at h2
  refine ⟨v.toInt.toNat, by omega, by omega, ?_⟩
  apply Int32.toInt_inj.mp
  rw [nI_toInt (by omega)]
  omega
theorem arm_t {n : Nat} (hn : 3 ≤ n ∧ n ≤ 6) {x : Int32} (h : armB n x = true) : ∃ i : Nat, i < n ∧ x = nI i := by
  unfold armB at h
  rw [nI_sub1 (by omega)] at h
  obtain ⟨m, -, h2, h3⟩ := wth_t (by omega) h (by decide)
  exact ⟨m, by omega, h3⟩
theorem wth_bd {v : Int32} {b : Nat} (hb : b < 2 ^ 31) (h : wth v (nI 0) (nI b) = true) : 0 ≤ v.toInt ∧ v.toInt ≤ b := by
  obtain ⟨m, h1, h2, h3⟩ := wth_t hb h (by decide)
  rw [h3, nI_toInt (by omega)]
  omega
theorem scl_Z {c p : Int32} (h1 : 0 ≤ c.toInt ∧ c.toInt ≤ 9999) (h2 : 0 ≤ p.toInt ∧ p.toInt ≤ 300) : 0 ≤ (scl c p).toInt := by
  unfold scl
  have h3 : 0 ≤ c.toInt * p.toInt := Int.mul_nonneg h1.1 h2.1
  have h4 : c.toInt * p.toInt ≤ 9999 * 300 := Int.mul_le_mul h1.2 h2.2 h2.1 (by decide)
  have e1 : (c * p).toInt = c.toInt * p.toInt := by
    rw [Int32.toInt_mul]; exact Int.bmod_eq_of_le (by omega) (by omega)
  have e2 : (c * p + nI 50).toInt = c.toInt * p.toInt + 50 := by
    rw [toInt_addS (by rw [e1, nI_toInt (by decide)]; omega) (by rw [e1, nI_toInt (by decide)]; omega), e1, nI_toInt (by decide)]; rfl
  rw [Int32.toInt_div, e2, nI_toInt (by decide)]
  have h5 : 0 ≤ (c.toInt * p.toInt + 50).tdiv ((100 : Nat) : Int) := Int.tdiv_nonneg (by omega) (by omega)
  have h6 : (c.toInt * p.toInt + 50).tdiv ((100 : Nat) : Int) ≤ c.toInt * p.toInt + 50 := Int.tdiv_le_self _ (by omega)
  rw [Int.bmod_eq_of_le (by omega) (by omega)]
  exact h5
theorem BD_sc {n : Nat} {f : Nat → Int32} {x : Int32} (h : BD n f) (hx : 0 ≤ x.toInt ∧ x.toInt ≤ 300) (hs : ∀ k : Nat, k < n → scl (f k) x ≤ nI 9999) : BD n (scO x n f) := by
  intro k hk
  rw [scO_all, if_pos hk]
  have h1 := hs k hk
  rw [Int32.le_iff_toInt_le, n9999] at h1
  exact ⟨scl_Z (h k hk) hx, h1⟩
def BW (n : Nat) (w : Nat → Nat → Int32) : Prop := ∀ i j : Nat, i < n → j < n → 0 ≤ (w i j).toInt ∧ (w i j).toInt ≤ 99
theorem BW_upd {n : Nat} {w : Nat → Nat → Int32} {i k : Nat} {x : Int32} (h : BW n w) (hx : 0 ≤ x.toInt ∧ x.toInt ≤ 99) : BW n (upd2 w i k x) := by
  intro a b ha hb
  unfold upd2
  by_cases h1 : a = i ∧ b = k
  · rw [if_pos h1]; exact hx
  · rw [if_neg h1]; exact h a b ha hb
theorem BW_0 (n : Nat) : BW n w0 := by
  intro a b _ _
  unfold w0
  split
  · rw [nI_toInt (by decide)]; decide
  · rw [nI_toInt (by decide)]; decide
theorem BD_0 (n : Nat) : BD n (fun _ => nI 0) := by
  intro a _
  show 0 ≤ (nI 0).toInt ∧ (nI 0).toInt ≤ 9999
  rw [nI_toInt (by decide)]; decide
