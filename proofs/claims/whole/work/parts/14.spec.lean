/-! the pure words: what the methods of both classes compute -/
def itN {α : Type} (f : Nat → α → α) : Nat → α → α
  | 0, a => a
  | k + 1, a => f k (itN f k a)
theorem itN_succ {α : Type} (f : Nat → α → α) (k : Nat) (a : α) : itN f (k + 1) a = f k (itN f k a) := rfl
theorem itN_zero {α : Type} (f : Nat → α → α) (a : α) : itN f 0 a = a := rfl
theorem nar_b (b : Bool) : narrow .boolean (.int (bI b)) = .int (bI b) := by cases b <;> rfl
theorem ag1_updD {n : Nat} {f g : Nat → UInt64} (h : ∀ j : Nat, j < n → f j = g j) (i : Nat) (v : UInt64) : ∀ j : Nat, j < n → vf_upd f i v j = vf_upd g i v j := by
  intro a ha
  unfold vf_upd
  by_cases hab : a = i
  · rw [if_pos hab, if_pos hab]
  · rw [if_neg hab, if_neg hab]
    exact h a ha
-- sums of a row, of a column
def rowS (e : Nat → Nat → UInt64) (k i : Nat) : UInt64 := itN (fun j s => FP.dadd s (e i j)) k FP.dconst0
def colS (e : Nat → Nat → UInt64) (k j : Nat) : UInt64 := itN (fun i s => FP.dadd s (e i j)) k FP.dconst0
def okR (e : Nat → Nat → UInt64) (n i : Nat) : Prop := ∀ k : Nat, k < n → vf_n64 (FP.dadd (rowS e k i) (e i k))
def okC (e : Nat → Nat → UInt64) (n j : Nat) : Prop := ∀ k : Nat, k < n → vf_n64 (FP.dadd (colS e k j) (e k j))
-- whole numbers
def sumI (f : Nat → Int32) (k : Nat) : Int32 := itN (fun j s => s + f j) k (nI 0)
def scl (c p : Int32) : Int32 := (c * p + nI 50) / nI 100
def dist (x y : UInt64) : UInt64 := if dlt (FP.dsub x y) FP.dconst0 = true then FP.dneg (FP.dsub x y) else FP.dsub x y
theorem nI_shl {a : Nat} (h : a < 31) : (nI 1) <<< (nI a &&& 31) = nI (2 ^ a) := by
  have h2 : ∀ a : Fin 31, (nI 1) <<< (nI a.1 &&& 31) = nI (2 ^ a.1) := by decide +kernel
  exact h2 ⟨a, h⟩
theorem nI_and {a b : Nat} (ha : a < 2 ^ 31) (hb : b < 2 ^ 31) : nI a &&& nI b = nI (a &&& b) := by
  apply Int32.toBitVec_inj.mp
  apply BitVec.eq_of_toNat_eq
  have e1 : ∀ x : Nat, x < 2 ^ 31 → (nI x).toBitVec.toNat = x := by
    intro x hx
    show (BitVec.ofNat 32 x).toNat = x
    rw [BitVec.toNat_ofNat]; exact Nat.mod_eq_of_lt (by omega)
  have hab : a &&& b < 2 ^ 31 := Nat.lt_of_le_of_lt Nat.and_le_left ha
  rw [e1 _ hab, Int32.toBitVec_and, BitVec.toNat_and, e1 _ ha, e1 _ hb]
theorem nI_or {a b : Nat} (ha : a < 2 ^ 31) (hb : b < 2 ^ 31) : nI a ||| nI b = nI (a ||| b) := by
  apply Int32.toBitVec_inj.mp
  apply BitVec.eq_of_toNat_eq
  have e1 : ∀ x : Nat, x < 2 ^ 31 → (nI x).toBitVec.toNat = x := by
    intro x hx
    show (BitVec.ofNat 32 x).toNat = x
    rw [BitVec.toNat_ofNat]; exact Nat.mod_eq_of_lt (by omega)
  have hab : a ||| b < 2 ^ 31 := Nat.or_lt_two_pow ha hb
  rw [e1 _ hab, Int32.toBitVec_or, BitVec.toNat_or, e1 _ ha, e1 _ hb]
theorem bit_and (s a : Nat) : (s &&& 2 ^ a = 0) ↔ s.testBit a = false := by
  constructor
  · intro h
    have h1 : (s &&& 2 ^ a).testBit a = false := by rw [h]; exact Nat.zero_testBit a
    rw [Nat.testBit_and, Nat.testBit_two_pow_self, Bool.and_true] at h1
    exact h1
  · intro h
    apply Nat.eq_of_testBit_eq
    intro i
    rw [Nat.testBit_and, Nat.zero_testBit]
    by_cases hi : i = a
    · subst hi; rw [h]; rfl
    · rw [Nat.testBit_two_pow_of_ne (Ne.symm hi), Bool.and_false]
theorem nI_bit {s a : Nat} (hs : s < 2 ^ 31) (ha : a < 31) : (nI s &&& nI (2 ^ a) = 0) ↔ s.testBit a = false := by
  have h2 : 2 ^ a < 2 ^ 31 := Nat.pow_lt_pow_of_lt (by omega) ha
  rw [nI_and hs h2, ← nI_0, nI_eq (Nat.lt_of_le_of_lt Nat.and_le_left hs) (by decide), bit_and]
-- which arms a set leads to; how crowded it is
def opn (w : Nat → Nat → Int32) (i j : Nat) : Bool := decide (0 < w i j)
def ldk (op : Nat → Nat → Bool) (s b k : Nat) : Bool := itN (fun a l => l || (s.testBit a && op a b)) k false
def rch (T : Nat → Nat) (s k : Nat) : Nat := itN (fun a r => if s.testBit a = true then r ||| T a else r) k 0
theorem rch_lt {T : Nat → Nat} {n : Nat} (hT : ∀ j : Nat, j < n → T j < 64) (s : Nat) : ∀ k : Nat, k ≤ n → rch T s k < 64 := by
  intro k
  induction k with
  | zero => intro _; exact (show (0 : Nat) < 64 by decide)
  | succ k ih =>
    intro hk
    have h1 := ih (by omega)
    unfold rch at h1 ⊢
    rw [itN_succ]
    by_cases h : s.testBit k = true
    · rw [if_pos h]
      exact Nat.or_lt_two_pow (n := 6) h1 (hT k (by omega))
    · rw [if_neg h]; exact h1
theorem rch_bit {T : Nat → Nat} {op : Nat → Nat → Bool} {n : Nat} (h2 : ∀ i j : Nat, i < n → j < n → (T i).testBit j = op i j) (s : Nat) {b : Nat} (hb : b < n) : ∀ k : Nat, k ≤ n → (rch T s k).testBit b = ldk op s b k := by
  intro k
  induction k with
  | zero => intro _; exact Nat.zero_testBit b
  | succ k ih =>
    intro hk
    have h1 := ih (by omega)
    unfold rch ldk at h1 ⊢
    rw [itN_succ, itN_succ]
    by_cases h : s.testBit k = true
    · rw [if_pos h, Nat.testBit_or, h1, h2 k b (by omega) hb, h, Bool.true_and]
    · rw [if_neg h, h1, Bool.not_eq_true _ |>.mp h, Bool.false_and, Bool.or_false]
def exc (n : Nat) (op : Nat → Nat → Bool) (inf cap : Nat → Int32) (s k : Nat) : Int32 := itN (fun a x => if ldk op s a n = true then (if s.testBit a = true then x + inf a else x) - cap a else (if s.testBit a = true then x + inf a else x)) k (nI 0)
def crdF (P : Nat → Bool) : Nat → Nat → Int32
  | 0, _ => -1
  | j + 1, k => if P k = true then nI k else crdF P j (k + 1)
def excP (n : Nat) (op : Nat → Nat → Bool) (inf cap : Nat → Int32) (s : Nat) : Bool := decide (0 < exc n op inf cap s n)
def crd (n : Nat) (op : Nat → Nat → Bool) (inf out : Nat → Int32) : Int32 := crdF (excP n op inf out) (2 ^ n - 1) 1
def dif (n : Nat) (inf out : Nat → Int32) : Int32 := sumI inf n - sumI out n
def psb (n : Nat) (op : Nat → Nat → Bool) (inf out : Nat → Int32) : Bool := decide (dif n inf out = 0) && decide (crd n op inf out = -1)
def mnI (x y : Int32) : Int32 := if y < x then y else x
def abI (x : Int32) : Int32 := if 0 ≤ x then x else 0 - x
theorem pow6 {n : Nat} (hn : 3 ≤ n ∧ n ≤ 6) : 8 ≤ 2 ^ n ∧ 2 ^ n ≤ 64 := by
  obtain ⟨h1, h2⟩ := hn
  rcases (show n = 3 ∨ n = 4 ∨ n = 5 ∨ n = 6 by omega) with rfl | rfl | rfl | rfl <;> decide
theorem allA {n : Nat} (hn : 3 ≤ n ∧ n ≤ 6) : (nI 1) <<< (nI n &&& 31) - nI 1 = nI (2 ^ n - 1) := by
  obtain ⟨h1, h2⟩ := hn
  rcases (show n = 3 ∨ n = 4 ∨ n = 5 ∨ n = 6 by omega) with rfl | rfl | rfl | rfl <;> decide +kernel
-- the greatest number for a turn
def gpK (n : Nat) (op : Nat → Nat → Bool) (inf ol : Nat → Int32) (i j : Nat) (x0 : Int32) (k : Nat) : Int32 := itN (fun m x => if ldk op ((m + 1) * 2 ^ (i + 1)) j n = true then mnI x (-(exc n op inf ol ((m + 1) * 2 ^ (i + 1)) n)) else x) k (mnI x0 (ol j))
def gps (n : Nat) (op : Nat → Nat → Bool) (inf ol : Nat → Int32) (i j : Nat) (x0 : Int32) : Int32 := if op i j = true then gpK n op inf ol i j x0 (2 ^ (n - 1 - i) - 1) else nI 0
theorem gp_split {n i : Nat} (hi : i < n) : 2 ^ (n - 1 - i) * 2 ^ (i + 1) = 2 ^ n := by
  rw [← Nat.pow_add]; congr 1; omega
theorem gp_lt {n i m : Nat} (hi : i < n) (hm : m < 2 ^ (n - 1 - i) - 1) : (m + 1) * 2 ^ (i + 1) < 2 ^ n := by
  rw [← gp_split hi]
  exact Nat.mul_lt_mul_of_pos_right (by omega) (Nat.two_pow_pos _)
theorem gp_end {n i : Nat} (hi : i < n) : (2 ^ (n - 1 - i) - 1 + 1) * 2 ^ (i + 1) = 2 ^ n := by
  rw [Nat.sub_add_cancel (Nat.one_le_two_pow)]; exact gp_split hi
theorem nI_shl2 {i : Nat} (hi : i < 6) : (nI 2) <<< (nI i &&& 31) = nI (2 ^ (i + 1)) := by
  have h2 : ∀ a : Fin 6, (nI 2) <<< (nI a.1 &&& 31) = nI (2 ^ (a.1 + 1)) := by decide +kernel
  exact h2 ⟨i, hi⟩
-- misfit, busiest turn
def misB (n : Nat) (inf out : Nat → Int32) (e : Nat → Nat → UInt64) (k : Nat) (g : UInt64) : UInt64 :=
  if dgt (dist (colS e n k) (FP.i2d (out k))) (if dgt (dist (rowS e n k) (FP.i2d (inf k))) g = true then dist (rowS e n k) (FP.i2d (inf k)) else g) = true then dist (colS e n k) (FP.i2d (out k)) else (if dgt (dist (rowS e n k) (FP.i2d (inf k))) g = true then dist (rowS e n k) (FP.i2d (inf k)) else g)
def misK (n : Nat) (inf out : Nat → Int32) (e : Nat → Nat → UInt64) (k : Nat) : UInt64 := itN (misB n inf out e) k FP.dconst0
def okM (n : Nat) (inf out : Nat → Int32) (e : Nat → Nat → UInt64) : Prop := ∀ k : Nat, k < n → okR e n k ∧ okC e n k ∧ vf_n64 (FP.dsub (rowS e n k) (FP.i2d (inf k))) ∧ vf_n64 (FP.dsub (colS e n k) (FP.i2d (out k)))
def busI (e : Nat → Nat → UInt64) (i k : Nat) (s : Int32 × UInt64) : Int32 × UInt64 := itN (fun j s => if dgt (e i j) s.2 = true then (nI (10 * i + j), e i j) else s) k s
def busO (e : Nat → Nat → UInt64) (n k : Nat) : Int32 × UInt64 := itN (fun i s => busI e i n s) k (-1, FP.dconst0)
-- rounding
def grf (op : Nat → Nat → Bool) (fs : Nat → UInt64) (i k : Nat) : Int32 × UInt64 := itN (fun j s => if op i j = true then (if dgt (fs j) s.2 = true then (nI j, fs j) else s) else s) k (-1, 13830554455654793216)
def rcS (rt : Nat → Nat → Int32) (j k : Nat) : Int32 := itN (fun i v => v + rt i j) k (nI 0)
def rdf (n : Nat) (rt : Nat → Nat → Int32) (out : Nat → Int32) (k : Nat) : Int32 := itN (fun j d => d + abI (rcS rt j n - out j)) k (nI 0)
def mxT (h : Int64) (w : Int32) (t : Int64) (r p : Int32) : Int64 := 31 * (31 * (31 * (31 * h + w.toInt64) + t) + r.toInt64) + p.toInt64
-- the estimate laid anew, steps, rounds
def rstI (w : Nat → Nat → Int32) (i k : Nat) (f : Nat → Nat → UInt64) : Nat → Nat → UInt64 := itN (fun j f => upd2 f i j (FP.i2d (w i j))) k f
def rstO (w : Nat → Nat → Int32) (n k : Nat) (f : Nat → Nat → UInt64) : Nat → Nat → UInt64 := itN (fun i f => rstI w i n f) k f
def lay (w : Nat → Nat → Int32) : Nat → Nat → UInt64 := fun i j => FP.i2d (w i j)
theorem rstI_at (w : Nat → Nat → Int32) (i : Nat) (f : Nat → Nat → UInt64) (a b : Nat) : ∀ k : Nat, rstI w i k f a b = if a = i ∧ b < k then FP.i2d (w a b) else f a b := by
  intro k
  induction k with
  | zero => rw [if_neg (by omega)]; rfl
  | succ k ih =>
    show upd2 (rstI w i k f) i k (FP.i2d (w i k)) a b = _
    unfold upd2
    by_cases h : a = i ∧ b = k
    · rw [if_pos h, if_pos (by omega), h.1, h.2]
    · rw [if_neg h, ih]
      by_cases h2 : a = i ∧ b < k
      · rw [if_pos h2, if_pos (by omega)]
      · rw [if_neg h2, if_neg (by omega)]
theorem rstO_at (w : Nat → Nat → Int32) (n : Nat) (f : Nat → Nat → UInt64) (a b : Nat) : ∀ k : Nat, rstO w n k f a b = if a < k ∧ b < n then FP.i2d (w a b) else f a b := by
  intro k
  induction k with
  | zero => rw [if_neg (by omega)]; rfl
  | succ k ih =>
    show rstI w k n (rstO w n k f) a b = _
    rw [rstI_at, ih]
    by_cases h : a = k ∧ b < n
    · rw [if_pos h, if_pos (by omega)]
    · rw [if_neg h]
      by_cases h2 : a < k ∧ b < n
      · rw [if_pos h2, if_pos (by omega)]
      · rw [if_neg h2, if_neg (by omega)]
theorem rst_ag {n : Nat} {fe : Nat → UInt64} {w : Nat → Nat → Int32} {f : Nat → Nat → UInt64} (h : ag2 n fe (rstO w n n f)) : ag2 n fe (lay w) := fun i j hi hj => by rw [h i j hi hj, rstO_at, if_pos ⟨hi, hj⟩]; rfl
def rowF (n : Nat) (inf : Nat → Int32) (e : Nat → Nat → UInt64) (i : Nat) : UInt64 := FP.ddiv (FP.i2d (inf i)) (rowS e n i)
def colF (n : Nat) (out : Nat → Int32) (e : Nat → Nat → UInt64) (j : Nat) : UInt64 := FP.ddiv (FP.i2d (out j)) (colS e n j)
def rowM (c : UInt64) (i k : Nat) (f : Nat → Nat → UInt64) : Nat → Nat → UInt64 := itN (fun j f => upd2 f i j (FP.dmul (f i j) c)) k f
def colM (c : UInt64) (j k : Nat) (f : Nat → Nat → UInt64) : Nat → Nat → UInt64 := itN (fun i f => upd2 f i j (FP.dmul (f i j) c)) k f
def rowSt (n : Nat) (inf : Nat → Int32) (e : Nat → Nat → UInt64) (i : Nat) : Nat → Nat → UInt64 := if dgt (rowS e n i) FP.dconst0 = true then rowM (rowF n inf e i) i n e else e
def colSt (n : Nat) (out : Nat → Int32) (e : Nat → Nat → UInt64) (j : Nat) : Nat → Nat → UInt64 := if dgt (colS e n j) FP.dconst0 = true then colM (colF n out e j) j n e else e
def rowsK (n : Nat) (inf : Nat → Int32) (e : Nat → Nat → UInt64) (k : Nat) : Nat → Nat → UInt64 := itN (fun i f => rowSt n inf f i) k e
def colsK (n : Nat) (out : Nat → Int32) (e : Nat → Nat → UInt64) (k : Nat) : Nat → Nat → UInt64 := itN (fun j f => colSt n out f j) k e
def rnd (n : Nat) (inf out : Nat → Int32) (e : Nat → Nat → UInt64) : Nat → Nat → UInt64 := colsK n out (rowsK n inf e n) n
def okRS (n : Nat) (inf : Nat → Int32) (e : Nat → Nat → UInt64) (i : Nat) : Prop := okR e n i ∧ (dgt (rowS e n i) FP.dconst0 = true → vf_n64 (rowF n inf e i) ∧ ∀ k : Nat, k < n → vf_n64 (FP.dmul (rowM (rowF n inf e i) i k e i k) (rowF n inf e i)))
def okCS (n : Nat) (out : Nat → Int32) (e : Nat → Nat → UInt64) (j : Nat) : Prop := okC e n j ∧ (dgt (colS e n j) FP.dconst0 = true → vf_n64 (colF n out e j) ∧ ∀ k : Nat, k < n → vf_n64 (FP.dmul (colM (colF n out e j) j k e k j) (colF n out e j)))
def okRnd (n : Nat) (inf out : Nat → Int32) (e : Nat → Nat → UInt64) : Prop := (∀ k : Nat, k < n → okRS n inf (rowsK n inf e k) k) ∧ ∀ k : Nat, k < n → okCS n out (colsK n out (rowsK n inf e n) k) k
-- targets
def updT (T : Nat → Nat) (i t : Nat) : Nat → Nat := fun a => if a = i then t else T a
theorem ft_upd {ft : Nat → Int32} {T : Nat → Nat} (hT : ∀ j : Nat, j < 6 → ft j = nI (T j) ∧ T j < 64) {i t : Nat} (ht : t < 64) : ∀ j : Nat, j < 6 → upd ft i (nI t) j = nI (updT T i t j) ∧ updT T i t j < 64 := by
  intro j hj
  unfold upd updT
  by_cases h : j = i
  · rw [if_pos h, if_pos h]; exact ⟨rfl, ht⟩
  · rw [if_neg h, if_neg h]; exact hT j hj
theorem tg_clr : ∀ t : Fin 64, ∀ j : Fin 6, nI t.1 &&& (nI (2 ^ j.1) ^^^ (-1)) = nI (t.1 &&& (63 ^^^ 2 ^ j.1)) := by decide +kernel
theorem tg_clr_bit : ∀ t : Fin 64, ∀ j b : Fin 6, (t.1 &&& (63 ^^^ 2 ^ j.1)).testBit b.1 = if b = j then false else t.1.testBit b.1 := by decide +kernel
theorem tg_or_bit : ∀ t : Fin 64, ∀ j b : Fin 6, (t.1 ||| 2 ^ j.1).testBit b.1 = if b = j then true else t.1.testBit b.1 := by decide +kernel
theorem tg_or_lt : ∀ t : Fin 64, ∀ j : Fin 6, t.1 ||| 2 ^ j.1 < 64 := by decide +kernel
theorem tg_or {t j : Nat} (ht : t < 64) (hj : j < 6) : nI t ||| nI (2 ^ j) = nI (t ||| 2 ^ j) := nI_or (by omega) (Nat.pow_lt_pow_of_lt (by omega) (by omega))
theorem tg_bitO {T : Nat → Nat} {i j : Nat} (hi : T i < 64) (hj : j < 6) : ∀ a b : Nat, b < 6 → (updT T i (T i ||| 2 ^ j) a).testBit b = if a = i ∧ b = j then true else (T a).testBit b := by
  intro a b hb
  unfold updT
  by_cases h : a = i
  · rw [if_pos h]
    have := tg_or_bit ⟨T i, hi⟩ ⟨j, hj⟩ ⟨b, hb⟩
    simp only [Fin.mk.injEq] at this
    rw [this, h]
    by_cases h2 : b = j <;> simp [h2]
  · rw [if_neg h, if_neg (by omega)]
theorem tg_bitC {T : Nat → Nat} {i j : Nat} (hi : T i < 64) (hj : j < 6) : ∀ a b : Nat, b < 6 → (updT T i (T i &&& (63 ^^^ 2 ^ j)) a).testBit b = if a = i ∧ b = j then false else (T a).testBit b := by
  intro a b hb
  unfold updT
  by_cases h : a = i
  · rw [if_pos h]
    have := tg_clr_bit ⟨T i, hi⟩ ⟨j, hj⟩ ⟨b, hb⟩
    simp only [Fin.mk.injEq] at this
    rw [this, h]
    by_cases h2 : b = j <;> simp [h2]
  · rw [if_neg h, if_neg (by omega)]
-- a new junction
def dg (i j : Nat) : Int32 := if nI i = nI j then nI 0 else nI 1
def bgI (i k : Nat) (f : Nat → Nat → Int32) : Nat → Nat → Int32 := itN (fun j f => upd2 f i j (dg i j)) k f
def bgO (n k : Nat) (f : Nat → Nat → Int32) : Nat → Nat → Int32 := itN (fun i f => bgI i n f) k f
def zrO (k : Nat) (f : Nat → Int32) : Nat → Int32 := itN (fun i f => upd f i (nI 0)) k f
def w0 : Nat → Nat → Int32 := fun i j => if i = j then nI 0 else nI 1
theorem zrO_at (f : Nat → Int32) (a : Nat) : ∀ k : Nat, zrO k f a = if a < k then nI 0 else f a := by
  intro k
  induction k with
  | zero => rw [if_neg (by omega)]; rfl
  | succ k ih =>
    show upd (zrO k f) k (nI 0) a = _
    unfold upd
    by_cases h : a = k
    · rw [if_pos h, if_pos (by omega)]
    · rw [if_neg h, ih]
      by_cases h2 : a < k
      · rw [if_pos h2, if_pos (by omega)]
      · rw [if_neg h2, if_neg (by omega)]
theorem zr_ag {n : Nat} {f g : Nat → Int32} (h : ag1 n f (zrO n g)) : ag1 n f (fun _ => nI 0) := fun j hj => by rw [h j hj, zrO_at, if_pos hj]
theorem bgI_at (i : Nat) (f : Nat → Nat → Int32) (a b : Nat) : ∀ k : Nat, bgI i k f a b = if a = i ∧ b < k then dg a b else f a b := by
  intro k
  induction k with
  | zero => rw [if_neg (by omega)]; rfl
  | succ k ih =>
    show upd2 (bgI i k f) i k (dg i k) a b = _
    unfold upd2
    by_cases h : a = i ∧ b = k
    · rw [if_pos h, if_pos (by omega), h.1, h.2]
    · rw [if_neg h, ih]
      by_cases h2 : a = i ∧ b < k
      · rw [if_pos h2, if_pos (by omega)]
      · rw [if_neg h2, if_neg (by omega)]
theorem bgO_at (n : Nat) (f : Nat → Nat → Int32) (a b : Nat) : ∀ k : Nat, bgO n k f a b = if a < k ∧ b < n then dg a b else f a b := by
  intro k
  induction k with
  | zero => rw [if_neg (by omega)]; rfl
  | succ k ih =>
    show bgI k n (bgO n k f) a b = _
    rw [bgI_at, ih]
    by_cases h : a = k ∧ b < n
    · rw [if_pos h, if_pos (by omega)]
    · rw [if_neg h]
      by_cases h2 : a < k ∧ b < n
      · rw [if_pos h2, if_pos (by omega)]
      · rw [if_neg h2, if_neg (by omega)]
theorem bg_ag {n : Nat} (hn : n ≤ 6) {fw : Nat → Int32} {f : Nat → Nat → Int32} (h : ag2 n fw (bgO n n f)) : ag2 n fw w0 := fun i j hi hj => by
  rw [h i j hi hj, bgO_at, if_pos ⟨hi, hj⟩]
  unfold w0 dg
  by_cases hij : i = j
  · rw [if_pos hij, hij, if_pos rfl]
  · rw [if_neg hij, if_neg (fun q => hij ((nI_eq (by omega) (by omega)).mp q))]
theorem w0_pos {a b : Nat} (ha : a < 6) (hb : b < 6) : decide (0 < w0 a b) = decide (¬ a = b) := by
  unfold w0
  by_cases h : a = b
  · rw [if_pos h]; simp [h]; decide
  · rw [if_neg h]; simp [h]; decide
theorem bg_step {n i k a b : Nat} {T T' : Nat → Nat} {x : Int32} (hi : i < n ∧ k < n ∧ n ≤ 6) (hb : b < n) (hab : a < i ∨ (a = i ∧ b < k + 1)) (h : ∀ a b : Nat, b < n → (a < i ∨ (a = i ∧ b < k)) → (T a).testBit b = decide (0 < w0 a b)) (hs : ∀ a b : Nat, b < 6 → (T' a).testBit b = if a = i ∧ b = k then decide (0 < x) else (T a).testBit b) (hx : x = dg i k) : (T' a).testBit b = decide (0 < w0 a b) := by
  rw [hs a b (by omega)]
  by_cases h2 : a = i ∧ b = k
  · rw [if_pos h2, h2.1, h2.2, hx]
    unfold dg w0
    by_cases h3 : i = k
    · rw [if_pos h3, h3, if_pos rfl]
    · rw [if_neg h3, if_neg (fun q => h3 ((nI_eq (by omega) (by omega)).mp q))]
  · rw [if_neg h2]
    exact h a b hb (by omega)
-- rounding of a row
def xv (n : Nat) (inf : Nat → Int32) (e : Nat → Nat → UInt64) (i j : Nat) : UInt64 := if dgt (rowS e n i) FP.dconst0 = true then FP.ddiv (FP.dmul (e i j) (FP.i2d (inf i))) (rowS e n i) else FP.dconst0
def wv (n : Nat) (inf : Nat → Int32) (e : Nat → Nat → UInt64) (i j : Nat) : Int32 := FP.d2i (xv n inf e i j)
def fv (n : Nat) (inf : Nat → Int32) (e : Nat → Nat → UInt64) (i j : Nat) : UInt64 := FP.dsub (xv n inf e i j) (FP.i2d (wv n inf e i j))
def rrT (n : Nat) (inf : Nat → Int32) (e : Nat → Nat → UInt64) (i k : Nat) (rt : Nat → Nat → Int32) : Nat → Nat → Int32 := itN (fun j f => upd2 f i j (wv n inf e i j)) k rt
def rrF (n : Nat) (inf : Nat → Int32) (e : Nat → Nat → UInt64) (i k : Nat) (fs : Nat → UInt64) : Nat → UInt64 := itN (fun j f => vf_upd f j (fv n inf e i j)) k fs
def rrS (n : Nat) (inf : Nat → Int32) (e : Nat → Nat → UInt64) (i k : Nat) : Int32 := itN (fun j t => t + wv n inf e i j) k (nI 0)
def okX (n : Nat) (inf : Nat → Int32) (e : Nat → Nat → UInt64) (i : Nat) : Prop := okR e n i ∧ (dgt (rowS e n i) FP.dconst0 = true → ∀ j : Nat, j < n → vf_n64 (FP.dmul (e i j) (FP.i2d (inf i))) ∧ vf_n64 (FP.ddiv (FP.dmul (e i j) (FP.i2d (inf i))) (rowS e n i))) ∧ ∀ j : Nat, j < n → vf_n64 (fv n inf e i j)
abbrev RT : Type := (Nat → Nat → Int32) × (Nat → UInt64)
def rsF (op : Nat → Nat → Bool) (i n : Nat) : Nat → RT → RT
  | 0, s => s
  | m + 1, s => if (grf op s.2 i n).1 = -1 then s else rsF op i n m (upd2 s.1 i (grf op s.2 i n).1.toNatClampNeg (s.1 i (grf op s.2 i n).1.toNatClampNeg + nI 1), vf_upd s.2 (grf op s.2 i n).1.toNatClampNeg 13830554455654793216)
theorem rsF_step {op : Nat → Nat → Bool} {i n m j : Nat} {rt : Nat → Nat → Int32} {fs : Nat → UInt64} (h : ¬ (grf op fs i n).1 = -1) (ej : (grf op fs i n).1 = nI j) (hj : j < 2 ^ 31) : rsF op i n (m + 1) (rt, fs) = rsF op i n m (upd2 rt i j (rt i j + nI 1), vf_upd fs j 13830554455654793216) := by
  show (if (grf op fs i n).1 = -1 then _ else _) = _
  rw [if_neg h, ej, nI_clamp hj]
theorem rsF_stop {op : Nat → Nat → Bool} {i n m : Nat} {rt : Nat → Nat → Int32} {fs : Nat → UInt64} (h : (grf op fs i n).1 = -1) : rsF op i n (m + 1) (rt, fs) = (rt, fs) := by
  show (if (grf op fs i n).1 = -1 then _ else _) = _
  rw [if_pos h]
theorem grf_nat (op : Nat → Nat → Bool) (fs : Nat → UInt64) (i : Nat) : ∀ k : Nat, (grf op fs i k).1 = -1 ∨ ∃ j : Nat, j < k ∧ (grf op fs i k).1 = nI j := by
  intro k
  induction k with
  | zero => exact Or.inl rfl
  | succ k ih =>
    have h0 : grf op fs i (k + 1) = if op i k = true then (if dgt (fs k) (grf op fs i k).2 = true then (nI k, fs k) else grf op fs i k) else grf op fs i k := rfl
    have h1 : (grf op fs i k).1 = -1 ∨ ∃ j : Nat, j < k + 1 ∧ (grf op fs i k).1 = nI j := ih.imp id (fun ⟨j, h, g⟩ => ⟨j, by omega, g⟩)
    rw [h0]
    by_cases ha : op i k = true
    · rw [if_pos ha]
      by_cases hb : dgt (fs k) (grf op fs i k).2 = true
      · rw [if_pos hb]; exact Or.inr ⟨k, by omega, rfl⟩
      · rw [if_neg hb]; exact h1
    · rw [if_neg ha]; exact h1
theorem grf_at {op : Nat → Nat → Bool} {fs : Nat → UInt64} {i n : Nat} (h : ¬ (grf op fs i n).1 = -1) : ∃ j : Nat, j < n ∧ (grf op fs i n).1 = nI j := (grf_nat op fs i n).resolve_left h
theorem rz_exit (x : Int32) : x ≤ nI x.toNatClampNeg := by
  rcases Int.lt_or_le x.toInt 0 with h | h
  · rw [Int32.le_iff_toInt_le]
    have : x.toNatClampNeg = 0 := by unfold Int32.toNatClampNeg; omega
    rw [this, nI_toInt (by decide)]; omega
  · rw [Int32.le_iff_toInt_le]
    have h2 := Int32.toInt_lt x
    have h3 : x.toNatClampNeg = x.toInt.toNat := rfl
    rw [nI_toInt (by omega)]; omega
theorem rz_body {x : Int32} {k : Nat} (h : k < x.toNatClampNeg) : ¬ x ≤ nI k := by
  have h2 := Int32.toInt_lt x
  have h3 : x.toNatClampNeg = x.toInt.toNat := rfl
  rw [Int32.le_iff_toInt_le, nI_toInt (by omega)]; omega
def rrow (op : Nat → Nat → Bool) (n : Nat) (inf : Nat → Int32) (e : Nat → Nat → UInt64) (i : Nat) (s : RT) : RT :=
  if dgt (rowS e n i) FP.dconst0 = true then rsF op i n (mnI (inf i - rrS n inf e i n) (nI n)).toNatClampNeg (rrT n inf e i n s.1, rrF n inf e i n s.2) else (rrT n inf e i n s.1, rrF n inf e i n s.2)
def rall (op : Nat → Nat → Bool) (n : Nat) (inf : Nat → Int32) (e : Nat → Nat → UInt64) (k : Nat) (s : RT) : RT := itN (fun i s => rrow op n inf e i s) k s
-- possible tables
abbrev TB : Type := (Nat → Nat → Int32) × (Nat → Int32) × Int32
def tbB (n : Nat) (op : Nat → Nat → Bool) (inf : Nat → Int32) (P : Bool) (i k : Nat) (s : TB) : TB :=
  if P = true then (upd2 s.1 i k (gps n op inf s.2.1 i k s.2.2), upd s.2.1 k (s.2.1 k - gps n op inf s.2.1 i k s.2.2), s.2.2 - gps n op inf s.2.1 i k s.2.2) else (upd2 s.1 i k (-1), s.2.1, s.2.2)
def tbI (n : Nat) (op : Nat → Nat → Bool) (inf : Nat → Int32) (P : Bool) (i k : Nat) (s : TB) : TB := itN (tbB n op inf P i) k s
def tbO (n : Nat) (op : Nat → Nat → Bool) (inf : Nat → Int32) (P : Bool) (k : Nat) (s : (Nat → Nat → Int32) × (Nat → Int32)) : (Nat → Nat → Int32) × (Nat → Int32) := itN (fun i s => ((tbI n op inf P i n (s.1, s.2, inf i)).1, (tbI n op inf P i n (s.1, s.2, inf i)).2.1)) k s
theorem cpy_ag {n : Nat} (hn : n ≤ 6) {fo fl out : Nat → Int32} (h : ag1 n fo out) : ag1 n (va_cpy fo fl (nI 0).toNatClampNeg (nI 0).toNatClampNeg (nI 6).toNatClampNeg) out := by
  intro j hj
  rw [nI_clamp (by decide), nI_clamp (by decide)]
  unfold va_cpy
  rw [if_pos (by omega), ← h j hj]
  congr 1; omega
-- the digest
def dgA (inf out : Nat → Int32) (k : Nat) (h : Int64) : Int64 := itN (fun a h => 31 * (31 * h + (inf a).toInt64) + (out a).toInt64) k h
def dgI (w : Nat → Nat → Int32) (e : Nat → Nat → UInt64) (rt pt : Nat → Nat → Int32) (i k : Nat) (h : Int64) : Int64 := itN (fun j h => mxT h (w i j) (FP.d2l (FP.dmul (e i j) 4652007308841189376)) (rt i j) (pt i j)) k h
def dgO (w : Nat → Nat → Int32) (e : Nat → Nat → UInt64) (rt pt : Nat → Nat → Int32) (n k : Nat) (h : Int64) : Int64 := itN (fun i h => dgI w e rt pt i n h) k h
def dgst (n : Nat) (op : Nat → Nat → Bool) (rC : Int32) (inf out : Nat → Int32) (w : Nat → Nat → Int32) (e : Nat → Nat → UInt64) (rt pt : Nat → Nat → Int32) : Int64 :=
  31 * (31 * (31 * (31 * (31 * (31 * dgO w e rt pt n n (dgA inf out n (31 * 1873 + (nI n).toInt64)) + (dif n inf out).toInt64) + (crd n op inf out).toInt64) + rC.toInt64) + FP.d2l (FP.dmul (misK n inf out e n) 4652007308841189376)) + (busO e n n).1.toInt64) + (rdf n rt out n).toInt64
def scO (p : Int32) (k : Nat) (f : Nat → Int32) : Nat → Int32 := itN (fun j f => upd f j (scl (f j) p)) k f
def rndK (n : Nat) (inf out : Nat → Int32) (k : Nat) (e : Nat → Nat → UInt64) : Nat → Nat → UInt64 := itN (fun _ f => rnd n inf out f) k e
theorem nI_addc (x : Int32) (k : Nat) : x + nI k + nI 1 = x + nI (k + 1) := by rw [Int32.add_assoc, nI_add]
theorem add_nI0 (x : Int32) : x + nI 0 = x := Int32.add_zero x
/-- rounds until the misfit is small: how many -/
def fitF (n : Nat) (inf out : Nat → Int32) (b : UInt64) : Nat → Nat → (Nat → Nat → UInt64) → Nat
  | 0, k, _ => k
  | j + 1, k, e => if dgt (misK n inf out e n) b = true then fitF n inf out b j (k + 1) (rnd n inf out e) else k
def dvT (t : Int32) : UInt64 := FP.ddiv (FP.i2d t) 4652007308841189376
