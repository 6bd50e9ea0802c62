/-! the pure words: what the methods of both classes compute -/
def itN {α : Type} (f : Nat → α → α) : Nat → α → α
  | 0, a => a
  | k + 1, a => f k (itN f k a)
theorem itN_succ {α : Type} (f : Nat → α → α) (k : Nat) (a : α) : itN f (k + 1) a = f k (itN f k a) := rfl
theorem itN_zero {α : Type} (f : Nat → α → α) (a : α) : itN f 0 a = a := rfl
theorem nar_b (b : Bool) : narrow .boolean (.int (bI b)) = .int (bI b) := by cases b <;> rfl
theorem ag1_updD {n : Nat} {f g : Nat → UInt64} (h : ∀ j : Nat, j < n → f j = g j) (i : Nat) (v : UInt64) : ∀ j : Nat, j < n → vf_upd f i v j = vf_upd g i v j := by
  intro a ha
  unfold vf_upd
  by_cases hab : a = i
  · rw [if_pos hab, if_pos hab]
  · rw [if_neg hab, if_neg hab]
    exact h a ha
-- sums of a row, of a column
def rowS (e : Nat → Nat → UInt64) (k i : Nat) : UInt64 := itN (fun j s => FP.dadd s (e i j)) k FP.dconst0
def colS (e : Nat → Nat → UInt64) (k j : Nat) : UInt64 := itN (fun i s => FP.dadd s (e i j)) k FP.dconst0
def okR (e : Nat → Nat → UInt64) (n i : Nat) : Prop := ∀ k : Nat, k < n → vf_n64 (FP.dadd (rowS e k i) (e i k))
def okC (e : Nat → Nat → UInt64) (n j : Nat) : Prop := ∀ k : Nat, k < n → vf_n64 (FP.dadd (colS e k j) (e k j))
-- whole numbers
def sumI (f : Nat → Int32) (k : Nat) : Int32 := itN (fun j s => s + f j) k (nI 0)
def scl (c p : Int32) : Int32 := (c * p + nI 50) / nI 100
def dist (x y : UInt64) : UInt64 := if dlt (FP.dsub x y) FP.dconst0 = true then FP.dneg (FP.dsub x y) else FP.dsub x y
theorem nI_shl {a : Nat} (h : a < 31) : (nI 1) <<< (nI a &&& 31) = nI (2 ^ a) := by
  have h2 : ∀ a : Fin 31, (nI 1) <<< (nI a.1 &&& 31) = nI (2 ^ a.1) := by decide +kernel
  exact h2 ⟨a, h⟩
theorem nI_and {a b : Nat} (ha : a < 2 ^ 31) (hb : b < 2 ^ 31) : nI a &&& nI b = nI (a &&& b) := by
  apply Int32.toBitVec_inj.mp
  apply BitVec.eq_of_toNat_eq
  have e1 : ∀ x : Nat, x < 2 ^ 31 → (nI x).toBitVec.toNat = x := by
    intro x hx
    show (BitVec.ofNat 32 x).toNat = x
    rw [BitVec.toNat_ofNat]; exact Nat.mod_eq_of_lt (by omega)
  have hab : a &&& b < 2 ^ 31 := Nat.lt_of_le_of_lt Nat.and_le_left ha
  rw [e1 _ hab, Int32.toBitVec_and, BitVec.toNat_and, e1 _ ha, e1 _ hb]
theorem nI_or {a b : Nat} (ha : a < 2 ^ 31) (hb : b < 2 ^ 31) : nI a ||| nI b = nI (a ||| b) := by
  apply Int32.toBitVec_inj.mp
  apply BitVec.eq_of_toNat_eq
  have e1 : ∀ x : Nat, x < 2 ^ 31 → (nI x).toBitVec.toNat = x := by
    intro x hx
    show (BitVec.ofNat 32 x).toNat = x
    rw [BitVec.toNat_ofNat]; exact Nat.mod_eq_of_lt (by omega)
  have hab : a ||| b < 2 ^ 31 := Nat.or_lt_two_pow ha hb
  rw [e1 _ hab, Int32.toBitVec_or, BitVec.toNat_or, e1 _ ha, e1 _ hb]
theorem bit_and (s a : Nat) : (s &&& 2 ^ a = 0) ↔ s.testBit a = false := by
  constructor
  · intro h
    have h1 : (s &&& 2 ^ a).testBit a = false := by rw [h]; exact Nat.zero_testBit a
    rw [Nat.testBit_and, Nat.testBit_two_pow_self, Bool.and_true] at h1
    exact h1
  · intro h
    apply Nat.eq_of_testBit_eq
    intro i
    rw [Nat.testBit_and, Nat.zero_testBit]
    by_cases hi : i = a
    · subst hi; rw [h]; rfl
    · rw [Nat.testBit_two_pow_of_ne (Ne.symm hi), Bool.and_false]
theorem nI_bit {s a : Nat} (hs : s < 2 ^ 31) (ha : a < 31) : (nI s &&& nI (2 ^ a) = 0) ↔ s.testBit a = false := by
  have h2 : 2 ^ a < 2 ^ 31 := Nat.pow_lt_pow_of_lt (by omega) ha
  rw [nI_and hs h2, ← nI_0, nI_eq (Nat.lt_of_le_of_lt Nat.and_le_left hs) (by decide), bit_and]
