/-! the reference's rounding and tables -/
def nxt (op : Nat → Nat → Bool) (fs : Nat → UInt64) (i k : Nat) : Int32 := itN (fun b best => if op i b = true then (if dge (fs b) FP.dconst0 = true then (if best = -1 then nI b else if dgt (fs b) (fs best.toNatClampNeg) = true then nI b else best) else best) else best) k (-1)
theorem nxt_suc (op : Nat → Nat → Bool) (fs : Nat → UInt64) (i k : Nat) : nxt op fs i (k + 1) = if op i k = true then (if dge (fs k) FP.dconst0 = true then (if nxt op fs i k = -1 then nI k else if dgt (fs k) (fs (nxt op fs i k).toNatClampNeg) = true then nI k else nxt op fs i k) else nxt op fs i k) else nxt op fs i k := rfl
theorem nxt_a {op : Nat → Nat → Bool} {fs : Nat → UInt64} {i k : Nat} (h1 : op i k = false) : nxt op fs i (k + 1) = nxt op fs i k := by
  rw [nxt_suc, if_neg (by rw [h1]; decide)]
theorem nxt_b {op : Nat → Nat → Bool} {fs : Nat → UInt64} {i k : Nat} (h1 : op i k = true) (h2 : dge (fs k) FP.dconst0 = false) : nxt op fs i (k + 1) = nxt op fs i k := by
  rw [nxt_suc, if_pos h1, if_neg (by rw [h2]; decide)]
theorem nxt_c {op : Nat → Nat → Bool} {fs : Nat → UInt64} {i k : Nat} (h1 : op i k = true) (h2 : dge (fs k) FP.dconst0 = true) (h3 : nxt op fs i k = -1) : nxt op fs i (k + 1) = nI k := by
  rw [nxt_suc, if_pos h1, if_pos h2, if_pos h3]
theorem nxt_d {op : Nat → Nat → Bool} {fs : Nat → UInt64} {i k jb : Nat} (h1 : op i k = true) (h2 : dge (fs k) FP.dconst0 = true) (h3 : ¬ nxt op fs i k = -1) (ej : nxt op fs i k = nI jb) (hj : jb < 2 ^ 31) (h4 : dgt (fs k) (fs jb) = true) : nxt op fs i (k + 1) = nI k := by
  rw [nxt_suc, if_pos h1, if_pos h2, if_neg h3, ej, nI_clamp hj, if_pos h4]
theorem nxt_e {op : Nat → Nat → Bool} {fs : Nat → UInt64} {i k jb : Nat} (h1 : op i k = true) (h2 : dge (fs k) FP.dconst0 = true) (h3 : ¬ nxt op fs i k = -1) (ej : nxt op fs i k = nI jb) (hj : jb < 2 ^ 31) (h4 : dgt (fs k) (fs jb) = false) : nxt op fs i (k + 1) = nI jb := by
  rw [nxt_suc, if_pos h1, if_pos h2, if_neg h3, ej, nI_clamp hj, if_neg (by rw [h4]; decide)]
theorem nxt_nat (op : Nat → Nat → Bool) (fs : Nat → UInt64) (i : Nat) : ∀ k : Nat, nxt op fs i k = -1 ∨ ∃ j : Nat, j < k ∧ nxt op fs i k = nI j := by
  intro k
  induction k with
  | zero => exact Or.inl rfl
  | succ k ih =>
    have h1 : nxt op fs i k = -1 ∨ ∃ j : Nat, j < k + 1 ∧ nxt op fs i k = nI j := ih.imp id (fun ⟨j, h, g⟩ => ⟨j, by omega, g⟩)
    have h2 : nI k = -1 ∨ ∃ j : Nat, j < k + 1 ∧ nI k = nI j := Or.inr ⟨k, by omega, rfl⟩
    rw [nxt_suc]
    split
    · split
      · split
        · exact h2
        · split
          · exact h2
          · exact h1
      · exact h1
    · exact h1
theorem nxt_at {op : Nat → Nat → Bool} {fs : Nat → UInt64} {i n : Nat} (h : ¬ nxt op fs i n = -1) : ∃ j : Nat, j < n ∧ nxt op fs i n = nI j := (nxt_nat op fs i n).resolve_left h
def rsM (op : Nat → Nat → Bool) (i n : Nat) : Nat → RT → RT
  | 0, s => s
  | m + 1, s => if nxt op s.2 i n = -1 then s else rsM op i n m (upd2 s.1 i (nxt op s.2 i n).toNatClampNeg (s.1 i (nxt op s.2 i n).toNatClampNeg + nI 1), vf_upd s.2 (nxt op s.2 i n).toNatClampNeg 13830554455654793216)
theorem rsM_step {op : Nat → Nat → Bool} {i n m j : Nat} {rt : Nat → Nat → Int32} {fs : Nat → UInt64} (h : ¬ nxt op fs i n = -1) (ej : nxt op fs i n = nI j) (hj : j < 2 ^ 31) : rsM op i n (m + 1) (rt, fs) = rsM op i n m (upd2 rt i j (rt i j + nI 1), vf_upd fs j 13830554455654793216) := by
  show (if nxt op fs i n = -1 then _ else _) = _
  rw [if_neg h, ej, nI_clamp hj]
theorem rsM_stop {op : Nat → Nat → Bool} {i n m : Nat} {rt : Nat → Nat → Int32} {fs : Nat → UInt64} (h : nxt op fs i n = -1) : rsM op i n (m + 1) (rt, fs) = (rt, fs) := by
  show (if nxt op fs i n = -1 then _ else _) = _
  rw [if_pos h]
def msg (x t : Int32) : Nat := (x.toInt - t.toInt).toNat
def rrwM (op : Nat → Nat → Bool) (n : Nat) (inf : Nat → Int32) (e : Nat → Nat → UInt64) (i : Nat) (s : RT) : RT :=
  if dgt (rowS e n i) FP.dconst0 = true then rsM op i n (msg (inf i) (rrS n inf e i n)) (rrT n inf e i n s.1, rrF n inf e i n s.2) else (rrT n inf e i n s.1, rrF n inf e i n s.2)
def ralM (op : Nat → Nat → Bool) (n : Nat) (inf : Nat → Int32) (e : Nat → Nat → UInt64) (k : Nat) (s : RT) : RT := itN (fun i s => rrwM op n inf e i s) k s
theorem msg_0 {x t : Int32} (h : 0 = msg x t) : x ≤ t := by
  unfold msg at h
  rw [Int32.le_iff_toInt_le]; omega
theorem msg_s {x t : Int32} {j : Nat} (h : j + 1 = msg x t) : ¬ x ≤ t ∧ j = msg x (t + Int32.ofInt 1) := by
  unfold msg at h ⊢
  have h1 := Int32.toInt_lt x
  have h2 := Int32.le_toInt t
  have h3 : (t + Int32.ofInt 1).toInt = t.toInt + 1 := by
    rw [Int32.toInt_add, show (Int32.ofInt 1).toInt = 1 from by decide]
    exact Int.bmod_eq_of_le (by omega) (by omega)
  rw [Int32.le_iff_toInt_le, h3]
  omega
-- rounded misfit
def mrC (rt : Nat → Nat → Int32) (out : Nat → Int32) (j k : Nat) : Int32 := itN (fun i v => v + rt i j) k (-(out j))
def nab (x : Int32) : Int32 := if 0 ≤ x then x else -x
def mrD (n : Nat) (rt : Nat → Nat → Int32) (out : Nat → Int32) (k : Nat) : Int32 := itN (fun j d => d + nab (mrC rt out j n)) k (nI 0)
-- what a set leaves
def lfL (n : Nat) (op : Nat → Nat → Bool) (oc : Nat → Int32) (s k : Nat) : Int32 := itN (fun b x => if ldk op s b n = true then x + oc b else x) k (nI 0)
def lfD (n : Nat) (op : Nat → Nat → Bool) (s j0 k : Nat) : Bool := itN (fun b l => l || (ldk op s b n && decide (nI b = nI j0))) k false
def lfR (n : Nat) (op : Nat → Nat → Bool) (ol oc : Nat → Int32) (s k : Nat) : Int32 := itN (fun a x => if s.testBit a = true then x - ol a else x) k (lfL n op oc s n)
def lfB (n : Nat) (op : Nat → Nat → Bool) (ol oc : Nat → Int32) (s j0 : Nat) : Int32 := if lfD n op s j0 n = true then lfR n op ol oc s n else nI 9999
def lcK (n : Nat) (op : Nat → Nat → Bool) (ol oc : Nat → Int32) (i j0 k : Nat) : Int32 := itN (fun s x => if s % 2 ^ (i + 1) = 0 then (if x ≤ lfB n op ol oc s j0 then x else lfB n op ol oc s j0) else x) k (if oc j0 ≤ ol i then oc j0 else ol i)
def lcV (n : Nat) (op : Nat → Nat → Bool) (ol oc : Nat → Int32) (i j0 : Nat) : Int32 := if op i j0 = true then lcK n op ol oc i j0 (2 ^ n) else nI 0
theorem lcK_a {n : Nat} {op : Nat → Nat → Bool} {ol oc : Nat → Int32} {i j0 k : Nat} (hk : k < 64) (hi : i < 6) (h : ¬ (nI k >>> (nI (i + 1) &&& 31)) <<< (nI (i + 1) &&& 31) = nI k) : lcK n op ol oc i j0 (k + 1) = lcK n op ol oc i j0 k := by
  unfold lcK; rw [itN_succ, if_neg (fun q => h ((nI_low hk hi).mpr q))]
theorem lcK_b {n : Nat} {op : Nat → Nat → Bool} {ol oc : Nat → Int32} {i j0 k : Nat} (hk : k < 64) (hi : i < 6) (h : (nI k >>> (nI (i + 1) &&& 31)) <<< (nI (i + 1) &&& 31) = nI k) (h2 : lcK n op ol oc i j0 k ≤ lfB n op ol oc k j0) : lcK n op ol oc i j0 (k + 1) = lcK n op ol oc i j0 k := by
  unfold lcK at h2 ⊢; rw [itN_succ, if_pos ((nI_low hk hi).mp h), if_pos h2]
theorem lcK_c {n : Nat} {op : Nat → Nat → Bool} {ol oc : Nat → Int32} {i j0 k : Nat} (hk : k < 64) (hi : i < 6) (h : (nI k >>> (nI (i + 1) &&& 31)) <<< (nI (i + 1) &&& 31) = nI k) (h2 : ¬ lcK n op ol oc i j0 k ≤ lfB n op ol oc k j0) : lcK n op ol oc i j0 (k + 1) = lfB n op ol oc k j0 := by
  unfold lcK at h2 ⊢; rw [itN_succ, if_pos ((nI_low hk hi).mp h), if_neg h2]
abbrev TM : Type := (Nat → Nat → Int32) × (Nat → Int32) × (Nat → Int32)
def ltB (n : Nat) (op : Nat → Nat → Bool) (i k : Nat) (s : TM) : TM := (upd2 s.1 i k (lcV n op s.2.1 s.2.2 i k), upd s.2.1 i (s.2.1 i - lcV n op s.2.1 s.2.2 i k), upd s.2.2 k (s.2.2 k - lcV n op s.2.1 s.2.2 i k))
def ltI (n : Nat) (op : Nat → Nat → Bool) (i k : Nat) (s : TM) : TM := itN (ltB n op i) k s
def ltO (n : Nat) (op : Nat → Nat → Bool) (k : Nat) (s : TM) : TM := itN (fun i s => ltI n op i n s) k s
def cpO (f : Nat → Int32) (k : Nat) (z : Nat → Int32) : Nat → Int32 := itN (fun a g => upd g a (f a)) k z
theorem cpO_at (f z : Nat → Int32) (a : Nat) : ∀ k : Nat, cpO f k z a = if a < k then f a else z a := by
  intro k
  induction k with
  | zero => rw [if_neg (by omega)]; rfl
  | succ k ih =>
    show upd (cpO f k z) k (f k) a = _
    unfold upd
    by_cases h : a = k
    · rw [if_pos h, if_pos (by omega), h]
    · rw [if_neg h, ih]
      by_cases h2 : a < k
      · rw [if_pos h2, if_pos (by omega)]
      · rw [if_neg h2, if_neg (by omega)]
theorem cpO_ag {n : Nat} {fl f z : Nat → Int32} (h : ag1 n fl (cpO f n z)) : ag1 n fl f := fun j hj => by rw [h j hj, cpO_at, if_pos hj]
def noT : Nat → Nat → Int32 := fun _ _ => -1
