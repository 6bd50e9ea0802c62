def GE (n : Nat) (inf out : Nat → Int32) (e : Nat → Nat → UInt64) : Prop :=
  (∀ i j : Nat, i < n → j < n → NF (e i j) ∧ Zu (e i j) ≤ 2 ^ 1089) ∧
  (∀ i : Nat, i < n → (∀ j : Nat, j < n → Zu (e i j) = 0) ∨ ∃ j : Nat, j < n ∧ 2 ^ 1030 ≤ Zu (e i j)) ∧
  (∀ j : Nat, j < n → (∀ i : Nat, i < n → Zu (e i j) = 0) ∨ ∃ i : Nat, i < n ∧ 2 ^ 1070 ≤ Zu (e i j)) ∧
  ((∀ i j : Nat, i < n → j < n → Zu (e i j) = 0 ∨ 2 ^ 1074 ≤ Zu (e i j)) ∨
   ((∀ i : Nat, i < n → (inf i).toInt = 0 → ∀ j : Nat, j < n → Zu (e i j) = 0) ∧ ∀ j : Nat, j < n → (out j).toInt = 0 → ∀ i : Nat, i < n → Zu (e i j) = 0))
theorem pw_le {a b : Nat} (h : a ≤ b) : 2 ^ a ≤ 2 ^ b := Nat.pow_le_pow_right (by decide) h
theorem pw_no {a x : Nat} (h : 2 ^ a ≤ x) (hx : x = 0) : False := by
  have := Nat.two_pow_pos a
  omega
theorem okR_of {e : Nat → Nat → UInt64} {n i : Nat} (h : ∀ k : Nat, k < n → vf_n64 (FP.dadd (sumD (e i) k) (e i k))) : okR e n i := h
theorem okC_of {e : Nat → Nat → UInt64} {n j : Nat} (h : ∀ k : Nat, k < n → vf_n64 (FP.dadd (sumD (fun i => e i j) k) (e k j))) : okC e n j := h
theorem GE_rnd {n : Nat} (hn : 3 ≤ n ∧ n ≤ 6) {inf out : Nat → Int32} (hI : BD n inf) (hO : BD n out) {e : Nat → Nat → UInt64} (h : GE n inf out e) : okRnd n inf out e ∧ GE n inf out (rnd n inf out e) := by
  obtain ⟨h1, h2, h3, h4⟩ := h
  have hn' : 1 ≤ n ∧ n ≤ 6 := ⟨by omega, hn.2⟩
  -- the rows
  have r : ∀ i : Nat, i < n → _ := fun i hi => rv_sc (g := e i) hn' (hI i hi) (fun j hj => h1 i j hi hj) ((h2 i hi).imp id (fun ⟨j, a, b⟩ => ⟨j, a, Nat.le_trans (pw_le (by decide)) b⟩))
  obtain ⟨e1, he1⟩ : ∃ e1, e1 = rowsK n inf e n := ⟨_, rfl⟩
  have q1 : ∀ i j : Nat, i < n → e1 i j = rv n (inf i) (e i) j := fun i j hi => by rw [he1, rowsK_all, if_pos hi]
  have a1 : ∀ i j : Nat, i < n → j < n → NF (e1 i j) ∧ Zu (e1 i j) ≤ 2 ^ 1089 := fun i j hi hj => by rw [q1 i j hi]; exact (r i hi).1 j hj
  have a2 : ∀ i j : Nat, i < n → j < n → Zu (e i j) = 0 → Zu (e1 i j) = 0 := fun i j hi hj q => by rw [q1 i j hi]; exact (r i hi).2.2.2.2.1 j hj q
  have a3 : ∀ i : Nat, i < n → (inf i).toInt = 0 → ∀ j : Nat, j < n → Zu (e1 i j) = 0 := fun i hi q j hj => by rw [q1 i j hi]; exact (r i hi).2.2.2.1 q j hj
  have a4 : ∀ i : Nat, i < n → (inf i).toInt ≠ 0 → ∀ j u : Nat, j < n → u + 18 ≤ 1090 → 2 ^ (u + 18) ≤ Zu (e i j) → 2 ^ u ≤ Zu (e1 i j) := fun i hi q j u hj hu p => by
    rw [q1 i j hi]; exact (r i hi).2.1 (by have := (hI i hi).1; omega) j u hj hu p
  have a5 : ∀ i : Nat, i < n → (∀ j : Nat, j < n → Zu (e1 i j) = 0) ∨ ∃ j : Nat, j < n ∧ 2 ^ 1070 ≤ Zu (e1 i j) := fun i hi => by
    by_cases q : (inf i).toInt = 0
    · exact Or.inl (a3 i hi q)
    · rcases (r i hi).2.2.1 (by have := (hI i hi).1; omega) with p | ⟨j, hj, p⟩
      · exact Or.inl fun j hj => by rw [q1 i j hi]; exact p j hj
      · exact Or.inr ⟨j, hj, by rw [q1 i j hi]; exact p⟩
  have a6 : ∀ j : Nat, j < n → (∀ i : Nat, i < n → Zu (e1 i j) = 0) ∨ ∃ i : Nat, i < n ∧ 2 ^ 1052 ≤ Zu (e1 i j) := fun j hj => by
    rcases h4 with h4 | ⟨h4, -⟩
    · by_cases q : ∃ i : Nat, i < n ∧ Zu (e1 i j) ≠ 0
      · obtain ⟨i, hi, q⟩ := q
        have q2 : (inf i).toInt ≠ 0 := fun z => q (a3 i hi z j hj)
        rcases h4 i j hi hj with p | p
        · exact absurd (a2 i j hi hj p) q
        · exact Or.inr ⟨i, hi, a4 i hi q2 j 1052 hj (by decide) (Nat.le_trans (pw_le (by decide)) p)⟩
      · exact Or.inl fun i hi => Classical.byContradiction fun z => q ⟨i, hi, z⟩
    · rcases h3 j hj with p | ⟨i, hi, p⟩
      · exact Or.inl fun i hi => a2 i j hi hj (p i hi)
      · have q2 : (inf i).toInt ≠ 0 := fun z => pw_no p (h4 i hi z j hj)
        exact Or.inr ⟨i, hi, a4 i hi q2 j 1052 hj (by decide) p⟩
  -- the columns
  have c : ∀ j : Nat, j < n → _ := fun j hj => rv_sc (g := fun i => e1 i j) hn' (hO j hj) (fun i hi => a1 i j hi hj) ((a6 j hj).imp id (fun ⟨i, a, b⟩ => ⟨i, a, Nat.le_trans (pw_le (by decide)) b⟩))
  obtain ⟨e2, he2⟩ : ∃ e2, e2 = rnd n inf out e := ⟨_, rfl⟩
  have q2 : ∀ i j : Nat, j < n → e2 i j = rv n (out j) (fun i => e1 i j) i := fun i j hj => by
    rw [he2]; unfold rnd; rw [← he1, colsK_all, if_pos hj]
  have b1 : ∀ i j : Nat, i < n → j < n → NF (e2 i j) ∧ Zu (e2 i j) ≤ 2 ^ 1089 := fun i j hi hj => by rw [q2 i j hj]; exact (c j hj).1 i hi
  have b2 : ∀ i j : Nat, i < n → j < n → Zu (e1 i j) = 0 → Zu (e2 i j) = 0 := fun i j hi hj q => by rw [q2 i j hj]; exact (c j hj).2.2.2.2.1 i hi q
  have b3 : ∀ j : Nat, j < n → (out j).toInt = 0 → ∀ i : Nat, i < n → Zu (e2 i j) = 0 := fun j hj q i hi => by rw [q2 i j hj]; exact (c j hj).2.2.2.1 q i hi
  have b4 : ∀ j : Nat, j < n → (out j).toInt ≠ 0 → ∀ i u : Nat, i < n → u + 18 ≤ 1090 → 2 ^ (u + 18) ≤ Zu (e1 i j) → 2 ^ u ≤ Zu (e2 i j) := fun j hj q i u hi hu p => by
    rw [q2 i j hj]; exact (c j hj).2.1 (by have := (hO j hj).1; omega) i u hi hu p
  refine ⟨⟨fun k hk => ?_, fun k hk => ?_⟩, ?_⟩
  · have e0 : rowsK n inf e k k = e k := funext fun b => by rw [rowsK_all, if_neg (Nat.lt_irrefl _)]
    have p := (r k hk).2.2.2.2.2
    refine ⟨?_, fun hd => ⟨?_, fun m hm => ?_⟩⟩
    · intro m hm
      show vf_n64 (FP.dadd (sumD (rowsK n inf e k k) m) (rowsK n inf e k k m))
      rw [e0]; exact p.1 m hm
    · have hd' : dgt (sumD (rowsK n inf e k k) n) FP.dconst0 = true := hd
      rw [e0] at hd'
      show vf_n64 (FP.ddiv (FP.i2d (inf k)) (sumD (rowsK n inf e k k) n))
      rw [e0]; exact (p.2 hd').1
    · have hd' : dgt (sumD (rowsK n inf e k k) n) FP.dconst0 = true := hd
      rw [e0] at hd'
      rw [rowM_all, if_neg (fun q => Nat.lt_irrefl _ q.2)]
      show vf_n64 (FP.dmul (rowsK n inf e k k m) (FP.ddiv (FP.i2d (inf k)) (sumD (rowsK n inf e k k) n)))
      rw [e0]; exact (p.2 hd').2 m hm
  · rw [← he1]
    have e0 : (fun i => colsK n out e1 k i k) = fun i => e1 i k := funext fun a => by rw [colsK_all, if_neg (Nat.lt_irrefl _)]
    have e0' : ∀ m : Nat, colsK n out e1 k m k = e1 m k := fun m => congrFun e0 m
    have p := (c k hk).2.2.2.2.2
    refine ⟨?_, fun hd => ⟨?_, fun m hm => ?_⟩⟩
    · intro m hm
      show vf_n64 (FP.dadd (sumD (fun i => colsK n out e1 k i k) m) (colsK n out e1 k m k))
      rw [e0, e0']; exact p.1 m hm
    · have hd' : dgt (sumD (fun i => colsK n out e1 k i k) n) FP.dconst0 = true := hd
      rw [e0] at hd'
      show vf_n64 (FP.ddiv (FP.i2d (out k)) (sumD (fun i => colsK n out e1 k i k) n))
      rw [e0]; exact (p.2 hd').1
    · have hd' : dgt (sumD (fun i => colsK n out e1 k i k) n) FP.dconst0 = true := hd
      rw [e0] at hd'
      rw [colM_all, if_neg (fun q => Nat.lt_irrefl _ q.2)]
      show vf_n64 (FP.dmul (colsK n out e1 k m k) (FP.ddiv (FP.i2d (out k)) (sumD (fun i => colsK n out e1 k i k) n)))
      rw [e0, e0']; exact (p.2 hd').2 m hm
  · rw [← he2]
    refine ⟨b1, fun i hi => ?_, fun j hj => ?_, Or.inr ⟨fun i hi q j hj => b2 i j hi hj (a3 i hi q j hj), b3⟩⟩
    · rcases h4 with h4 | ⟨-, h4⟩
      · by_cases q : ∃ j : Nat, j < n ∧ Zu (e2 i j) ≠ 0
        · obtain ⟨j, hj, q⟩ := q
          have q3 : (out j).toInt ≠ 0 := fun z => q (b3 j hj z i hi)
          have q4 : Zu (e1 i j) ≠ 0 := fun z => q (b2 i j hi hj z)
          have q5 : (inf i).toInt ≠ 0 := fun z => q4 (a3 i hi z j hj)
          rcases h4 i j hi hj with p | p
          · exact absurd (a2 i j hi hj p) q4
          · exact Or.inr ⟨j, hj, b4 j hj q3 i 1030 hi (by decide) (a4 i hi q5 j 1048 hj (by decide) (Nat.le_trans (pw_le (by decide)) p))⟩
        · exact Or.inl fun j hj => Classical.byContradiction fun z => q ⟨j, hj, z⟩
      · rcases a5 i hi with p | ⟨j, hj, p⟩
        · exact Or.inl fun j hj => b2 i j hi hj (p j hj)
        · have q3 : (out j).toInt ≠ 0 := fun z => pw_no p (a2 i j hi hj (h4 j hj z i hi))
          exact Or.inr ⟨j, hj, b4 j hj q3 i 1030 hi (by decide) (Nat.le_trans (pw_le (by decide)) p)⟩
    · by_cases q : (out j).toInt = 0
      · exact Or.inl (b3 j hj q)
      · rcases (c j hj).2.2.1 (by have := (hO j hj).1; omega) with p | ⟨i, hi, p⟩
        · exact Or.inl fun i hi => by rw [q2 i j hj]; exact p i hi
        · exact Or.inr ⟨i, hi, by rw [q2 i j hj]; exact p⟩
theorem GE_lay {n : Nat} {inf out : Nat → Int32} {w : Nat → Nat → Int32} (hw : BW n w) : GE n inf out (lay w) := by
  have h : ∀ i j : Nat, i < n → j < n → NF (lay w i j) ∧ Zu (lay w i j) = (w i j).toInt.toNat * P1 := fun i j hi hj => i2d_Z (hw i j hi hj).1
  have h2 : ∀ i j : Nat, i < n → j < n → Zu (lay w i j) = 0 ∨ 2 ^ 1074 ≤ Zu (lay w i j) := fun i j hi hj => by
    rw [(h i j hi hj).2]
    rcases Nat.eq_zero_or_pos (w i j).toInt.toNat with q | q
    · exact Or.inl (by rw [q, Nat.zero_mul])
    · exact Or.inr (Nat.le_mul_of_pos_left P1 q)
  refine ⟨fun i j hi hj => ⟨(h i j hi hj).1, ?_⟩, fun i hi => ?_, fun j hj => ?_, Or.inl h2⟩
  · rw [(h i j hi hj).2, show (2 : Nat) ^ 1089 = 2 ^ 15 * 2 ^ 1074 from by rw [← Nat.pow_add], ← P1_eq]
    exact Nat.mul_le_mul_right _ (by have := (hw i j hi hj).2; omega)
  · by_cases q : ∃ j : Nat, j < n ∧ Zu (lay w i j) ≠ 0
    · obtain ⟨j, hj, q⟩ := q
      exact Or.inr ⟨j, hj, Nat.le_trans (pw_le (by decide)) ((h2 i j hi hj).resolve_left q)⟩
    · exact Or.inl fun j hj => Classical.byContradiction fun z => q ⟨j, hj, z⟩
  · by_cases q : ∃ i : Nat, i < n ∧ Zu (lay w i j) ≠ 0
    · obtain ⟨i, hi, q⟩ := q
      exact Or.inr ⟨i, hi, Nat.le_trans (pw_le (by decide)) ((h2 i j hi hj).resolve_left q)⟩
    · exact Or.inl fun i hi => Classical.byContradiction fun z => q ⟨i, hi, z⟩
