def rv (n : Nat) (a : Int32) (g : Nat → UInt64) (b : Nat) : UInt64 := if dgt (sumD g n) FP.dconst0 = true then (if b < n then FP.dmul (g b) (FP.ddiv (FP.i2d a) (sumD g n)) else g b) else g b
theorem rowM_all (c : UInt64) (i : Nat) (f : Nat → Nat → UInt64) : ∀ k a b : Nat, rowM c i k f a b = if a = i ∧ b < k then FP.dmul (f i b) c else f a b := by
  intro k
  induction k with
  | zero => intro a b; rw [if_neg (fun q => absurd q.2 (Nat.not_lt_zero _))]; exact congrFun (congrFun (itN_zero _ _) a) b
  | succ k ih =>
    intro a b
    have e1 : rowM c i (k + 1) f = upd2 (rowM c i k f) i k (FP.dmul (rowM c i k f i k) c) := itN_succ _ _ _
    rw [e1]
    unfold upd2
    by_cases h : a = i ∧ b = k
    · rw [if_pos h, if_pos ⟨h.1, by omega⟩, ih, if_neg (fun q => Nat.lt_irrefl _ q.2), h.2]
    · rw [if_neg h, ih]
      by_cases h2 : a = i ∧ b < k
      · rw [if_pos h2, if_pos ⟨h2.1, by omega⟩]
      · rw [if_neg h2, if_neg (fun q => h2 ⟨q.1, by have := q.2; have : b ≠ k := fun z => h ⟨q.1, z⟩; omega⟩)]
theorem colM_all (c : UInt64) (j : Nat) (f : Nat → Nat → UInt64) : ∀ k a b : Nat, colM c j k f a b = if b = j ∧ a < k then FP.dmul (f a j) c else f a b := by
  intro k
  induction k with
  | zero => intro a b; rw [if_neg (fun q => absurd q.2 (Nat.not_lt_zero _))]; exact congrFun (congrFun (itN_zero _ _) a) b
  | succ k ih =>
    intro a b
    have e1 : colM c j (k + 1) f = upd2 (colM c j k f) k j (FP.dmul (colM c j k f k j) c) := itN_succ _ _ _
    rw [e1]
    unfold upd2
    by_cases h : a = k ∧ b = j
    · rw [if_pos h, if_pos ⟨h.2, by omega⟩, ih, if_neg (fun q => Nat.lt_irrefl _ q.2), h.1]
    · rw [if_neg h, ih]
      by_cases h2 : b = j ∧ a < k
      · rw [if_pos h2, if_pos ⟨h2.1, by omega⟩]
      · rw [if_neg h2, if_neg (fun q => h2 ⟨q.1, by have := q.2; have : a ≠ k := fun z => h ⟨z, q.1⟩; omega⟩)]
theorem rowSt_all (n : Nat) (inf : Nat → Int32) (f : Nat → Nat → UInt64) (i a b : Nat) : rowSt n inf f i a b = if a = i then rv n (inf i) (f i) b else f a b := by
  unfold rowSt rv rowF
  show (if dgt (sumD (f i) n) FP.dconst0 = true then rowM (FP.ddiv (FP.i2d (inf i)) (sumD (f i) n)) i n f else f) a b = _
  by_cases hd : dgt (sumD (f i) n) FP.dconst0 = true
  · rw [if_pos hd, if_pos hd, rowM_all]
    by_cases ha : a = i
    · rw [if_pos ha]
      by_cases hb : b < n
      · rw [if_pos ⟨ha, hb⟩, if_pos hb]
      · rw [if_neg (fun q => hb q.2), if_neg hb, ha]
    · rw [if_neg ha, if_neg (fun q => ha q.1)]
  · rw [if_neg hd, if_neg hd]
    by_cases ha : a = i
    · rw [if_pos ha, ha]
    · rw [if_neg ha]
theorem colSt_all (n : Nat) (out : Nat → Int32) (f : Nat → Nat → UInt64) (j a b : Nat) : colSt n out f j a b = if b = j then rv n (out j) (fun i => f i j) a else f a b := by
  unfold colSt rv colF
  show (if dgt (sumD (fun i => f i j) n) FP.dconst0 = true then colM (FP.ddiv (FP.i2d (out j)) (sumD (fun i => f i j) n)) j n f else f) a b = _
  by_cases hd : dgt (sumD (fun i => f i j) n) FP.dconst0 = true
  · rw [if_pos hd, if_pos hd, colM_all]
    by_cases hb : b = j
    · rw [if_pos hb]
      by_cases ha : a < n
      · rw [if_pos ⟨hb, ha⟩, if_pos ha]
      · rw [if_neg (fun q => ha q.2), if_neg ha, hb]
    · rw [if_neg hb, if_neg (fun q => hb q.1)]
  · rw [if_neg hd, if_neg hd]
    by_cases hb : b = j
    · rw [if_pos hb, hb]
    · rw [if_neg hb]
theorem rowsK_all (n : Nat) (inf : Nat → Int32) (e : Nat → Nat → UInt64) : ∀ k a b : Nat, rowsK n inf e k a b = if a < k then rv n (inf a) (e a) b else e a b := by
  intro k
  induction k with
  | zero => intro a b; rw [if_neg (Nat.not_lt_zero _)]; exact congrFun (congrFun (itN_zero _ _) a) b
  | succ k ih =>
    intro a b
    have e1 : rowsK n inf e (k + 1) = rowSt n inf (rowsK n inf e k) k := itN_succ _ _ _
    have e2 : rowsK n inf e k k = e k := funext fun b => by rw [ih, if_neg (Nat.lt_irrefl _)]
    rw [e1, rowSt_all, e2]
    by_cases h : a = k
    · rw [if_pos h, if_pos (by omega), h]
    · rw [if_neg h, ih]
      by_cases h2 : a < k
      · rw [if_pos h2, if_pos (by omega)]
      · rw [if_neg h2, if_neg (by omega)]
theorem colsK_all (n : Nat) (out : Nat → Int32) (e : Nat → Nat → UInt64) : ∀ k a b : Nat, colsK n out e k a b = if b < k then rv n (out b) (fun i => e i b) a else e a b := by
  intro k
  induction k with
  | zero => intro a b; rw [if_neg (Nat.not_lt_zero _)]; exact congrFun (congrFun (itN_zero _ _) a) b
  | succ k ih =>
    intro a b
    have e1 : colsK n out e (k + 1) = colSt n out (colsK n out e k) k := itN_succ _ _ _
    have e2 : (fun i => colsK n out e k i k) = fun i => e i k := funext fun a => by rw [ih, if_neg (Nat.lt_irrefl _)]
    rw [e1, colSt_all, e2]
    by_cases h : b = k
    · rw [if_pos h, if_pos (by omega), h]
    · rw [if_neg h, ih]
      by_cases h2 : b < k
      · rw [if_pos h2, if_pos (by omega)]
      · rw [if_neg h2, if_neg (by omega)]
/-- a step of a row or a column: what it keeps -/
theorem rv_sc {g : Nat → UInt64} {n : Nat} (hn : 1 ≤ n ∧ n ≤ 6) {a : Int32} (ha : 0 ≤ a.toInt ∧ a.toInt ≤ 9999) (h : ∀ j : Nat, j < n → NF (g j) ∧ Zu (g j) ≤ 2 ^ 1089) (hz : (∀ j : Nat, j < n → Zu (g j) = 0) ∨ ∃ j : Nat, j < n ∧ 2 ^ 1020 ≤ Zu (g j)) :
    (∀ j : Nat, j < n → NF (rv n a g j) ∧ Zu (rv n a g j) ≤ 2 ^ 1089) ∧ (1 ≤ a.toInt → ∀ j u : Nat, j < n → u + 18 ≤ 1090 → 2 ^ (u + 18) ≤ Zu (g j) → 2 ^ u ≤ Zu (rv n a g j)) ∧ (1 ≤ a.toInt → (∀ j : Nat, j < n → Zu (rv n a g j) = 0) ∨ ∃ j : Nat, j < n ∧ 2 ^ 1070 ≤ Zu (rv n a g j)) ∧ (a.toInt = 0 → ∀ j : Nat, j < n → Zu (rv n a g j) = 0) ∧ (∀ j : Nat, j < n → Zu (g j) = 0 → Zu (rv n a g j) = 0) ∧
    ((∀ k : Nat, k < n → vf_n64 (FP.dadd (sumD g k) (g k))) ∧ (dgt (sumD g n) FP.dconst0 = true → vf_n64 (FP.ddiv (FP.i2d a) (sumD g n)) ∧ ∀ k : Nat, k < n → vf_n64 (FP.dmul (g k) (FP.ddiv (FP.i2d a) (sumD g n))))) := by
  have hsum : ∀ k : Nat, k < n → vf_n64 (FP.dadd (sumD g k) (g k)) := fun k hk => by
    rw [← sumD_suc]; exact (sumD_bd (t := 1089) (by decide) hn.2 h (k + 1) hk).1.v
  rcases hz with hz | ⟨j0, hj0, hb⟩
  · obtain ⟨s1, s2⟩ := sumD_no (fun j hj => ⟨(h j hj).1, hz j hj⟩) n (Nat.le_refl _)
    have hd : ¬ dgt (sumD g n) FP.dconst0 = true := fun q => by rw [dgt0 s1, s2] at q; exact Nat.lt_irrefl _ q
    have hr : ∀ j : Nat, rv n a g j = g j := fun j => if_neg hd
    refine ⟨fun j hj => by rw [hr]; exact h j hj, fun _ j u hj _ q => ?_, fun _ => Or.inl fun j hj => by rw [hr]; exact hz j hj, fun _ j hj => by rw [hr]; exact hz j hj, fun j hj q => by rw [hr]; exact q, hsum, fun q => absurd q hd⟩
    rw [hz j hj] at q
    exact absurd q (Nat.not_le_of_lt (Nat.two_pow_pos _))
  · obtain ⟨s1, s2, s3⟩ := sumD_bd (t := 1089) (by decide) hn.2 h n (Nat.le_refl _)
    have hd : dgt (sumD g n) FP.dconst0 = true := (dgt0 s1).mpr (Nat.lt_of_lt_of_le (Nat.two_pow_pos 1020) (Nat.le_trans hb (s3 j0 hj0)))
    have hr : ∀ j : Nat, j < n → rv n a g j = FP.dmul (g j) (FP.ddiv (FP.i2d a) (sumD g n)) := fun j hj => (if_pos hd).trans (if_pos hj)
    obtain ⟨a1, a2, a3, a4, a5, a6⟩ := sc_of hn ha h hj0 hb
    refine ⟨fun j hj => by rw [hr j hj]; exact a2 j hj, fun p j u hj hu q => by rw [hr j hj]; exact a3 p j u hj hu q, fun p => Or.inr ?_, fun p j hj => by rw [hr j hj]; exact a5 p j hj, fun j hj q => by rw [hr j hj]; exact a6 j hj q, hsum, fun _ => ⟨a1.v, fun k hk => (a2 k hk).1.v⟩⟩
    obtain ⟨j, hj, q⟩ := a4 p
    exact ⟨j, hj, by rw [hr j hj]; exact q⟩
