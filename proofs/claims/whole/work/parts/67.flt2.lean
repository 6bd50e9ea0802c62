theorem div_shape {x y : UInt64} (hx : NF x) (hy : NF y) (hz : 0 < Zu y) : ∃ c d q r, FP.Core.val64 (FP.ddiv x y) = FP.Core.roundRatio FP.Core.b64 false c d (q - r) ∧ 0 < d ∧ FP.Core.b64.qmin ≤ q ∧ FP.Core.b64.qmin ≤ r ∧ r ≤ FP.Core.b64.qmax ∧ Zu x = c * 2 ^ (q - FP.Core.b64.qmin).toNat ∧ Zu y = d * 2 ^ (r - FP.Core.b64.qmin).toNat := by
  have e0 := FP.Core.val64_ddiv x y
  have fx := FP.Core.val64_fits x
  have fy := FP.Core.val64_fits y
  obtain ⟨c, q, h1⟩ := hx
  obtain ⟨d, r, h2⟩ := hy
  have zx : Zu x = c * 2 ^ (q - FP.Core.b64.qmin).toNat := by unfold Zu; rw [h1]; rfl
  have zy : Zu y = d * 2 ^ (r - FP.Core.b64.qmin).toNat := by unfold Zu; rw [h2]; rfl
  rw [h1] at fx; rw [h2] at fy
  have hd : 0 < d := by
    rcases Nat.eq_zero_or_pos d with h | h
    · rw [zy, h, Nat.zero_mul] at hz; omega
    · exact h
  refine ⟨c, d, q, r, ?_, hd, fx.2.1, fy.2.1, fy.2.2.1, zx, zy⟩
  rw [show FP.ddiv x y = FP.Core.ddiv x y from rfl, e0, h1, h2]
  show (if d = 0 then _ else _) = _
  rw [if_neg (by omega)]; rfl
theorem div_num {c d M a b K X k2 : Nat} (hX : X + b = a + (K + K)) (hk : k2 = K) : (c * 2 ^ X ≤ M * 2 ^ k2 * d ↔ c * 2 ^ a * 2 ^ K ≤ M * (d * 2 ^ b)) := by
  subst hk
  have e1 : c * 2 ^ X * 2 ^ b = c * 2 ^ a * 2 ^ k2 * 2 ^ k2 := by
    rw [Nat.mul_assoc, ← Nat.pow_add, hX, Nat.pow_add, Nat.pow_add, ← Nat.mul_assoc, ← Nat.mul_assoc]
  have e2 : M * 2 ^ k2 * d * 2 ^ b = M * (d * 2 ^ b) * 2 ^ k2 := by
    rw [Nat.mul_assoc (M * 2 ^ k2), Nat.mul_assoc M, Nat.mul_comm (2 ^ k2), ← Nat.mul_assoc]
  have p1 := Nat.two_pow_pos b
  have p2 := Nat.two_pow_pos k2
  constructor
  · intro h
    have h2 := Nat.mul_le_mul_right (2 ^ b) h
    rw [e1, e2] at h2
    exact Nat.le_of_mul_le_mul_right h2 p2
  · intro h
    have h2 := Nat.mul_le_mul_right (2 ^ k2) h
    rw [← e1, ← e2] at h2
    exact Nat.le_of_mul_le_mul_right h2 p1
theorem div_num2 {c d M a b K X k2 : Nat} (hX : X + b = a + (K + K)) (hk : k2 = K) : (M * 2 ^ k2 * d ≤ c * 2 ^ X ↔ M * (d * 2 ^ b) ≤ c * 2 ^ a * 2 ^ K) := by
  subst hk
  have e1 : c * 2 ^ X * 2 ^ b = c * 2 ^ a * 2 ^ k2 * 2 ^ k2 := by
    rw [Nat.mul_assoc, ← Nat.pow_add, hX, Nat.pow_add, Nat.pow_add, ← Nat.mul_assoc, ← Nat.mul_assoc]
  have e2 : M * 2 ^ k2 * d * 2 ^ b = M * (d * 2 ^ b) * 2 ^ k2 := by
    rw [Nat.mul_assoc (M * 2 ^ k2), Nat.mul_assoc M, Nat.mul_comm (2 ^ k2), ← Nat.mul_assoc]
  have p1 := Nat.two_pow_pos b
  have p2 := Nat.two_pow_pos k2
  constructor
  · intro h
    have h2 := Nat.mul_le_mul_right (2 ^ b) h
    rw [e1, e2] at h2
    exact Nat.le_of_mul_le_mul_right h2 p2
  · intro h
    have h2 := Nat.mul_le_mul_right (2 ^ k2) h
    rw [← e1, ← e2] at h2
    exact Nat.le_of_mul_le_mul_right h2 p1
theorem q_vals : FP.Core.b64.qmin = -1074 ∧ FP.Core.b64.qmax = 971 := by decide
theorem div_le {x y : UInt64} (hx : NF x) (hy : NF y) (hz : 0 < Zu y) {M : Nat} (hM : RP M) (h : Zu x * P1 ≤ M * Zu y) : NF (FP.ddiv x y) ∧ Zu (FP.ddiv x y) ≤ M := by
  obtain ⟨c, d, q, r, h1, h2, h3, h4, h5, h6, h7⟩ := div_shape hx hy hz
  obtain ⟨q1, q2⟩ := q_vals
  have := rr_le (A := c) (B := d) (e := q - r) (e0 := 2 * FP.Core.b64.qmin) hM h2 qm2 (by omega) (by
    unfold FP.Core.inUnits
    refine (div_num (a := (q - FP.Core.b64.qmin).toNat) (b := (r - FP.Core.b64.qmin).toNat) (K := (-FP.Core.b64.qmin).toNat) (by omega) sub1).mpr ?_
    rw [FP.Core.pow_qmin64, ← h6, ← h7]; exact h)
  unfold NF Zu
  rw [h1]; exact this
theorem div_ge {x y : UInt64} (hx : NF x) (hy : NF y) (hz : 0 < Zu y) {M : Nat} (hM : RP M) (h : M * Zu y ≤ Zu x * P1) : M ≤ Zu (FP.ddiv x y) := by
  obtain ⟨c, d, q, r, h1, h2, h3, h4, h5, h6, h7⟩ := div_shape hx hy hz
  obtain ⟨q1, q2⟩ := q_vals
  have := rr_ge (A := c) (B := d) (e := q - r) (e0 := 2 * FP.Core.b64.qmin) hM h2 qm2 (by omega) (by
    unfold FP.Core.inUnits
    refine (div_num2 (a := (q - FP.Core.b64.qmin).toNat) (b := (r - FP.Core.b64.qmin).toNat) (K := (-FP.Core.b64.qmin).toNat) (by omega) sub1).mpr ?_
    rw [FP.Core.pow_qmin64, ← h6, ← h7]; exact h)
  unfold Zu
  rw [h1]; exact this
theorem NF_zero : NF FP.dconst0 := ⟨0, _, FP.Core.val64_dconst0⟩
theorem Zu_zero : Zu FP.dconst0 = 0 := by
  unfold Zu
  rw [show FP.Core.val64 FP.dconst0 = _ from FP.Core.val64_dconst0]
  exact Nat.zero_mul _
theorem dgt_iff {x y : UInt64} (hx : NF x) (hy : NF y) : dgt x y = true ↔ Zu y < Zu x := by
  unfold dgt
  rw [beq_iff_eq, show FP.dcmp x y = FP.Core.dcmp x y from rfl, FP.Core.dcmp_gt, hx.z, hy.z]
  exact ⟨fun h => by omega, fun h => ⟨hx.n, hy.n, by omega⟩⟩
theorem dgt0 {x : UInt64} (hx : NF x) : dgt x FP.dconst0 = true ↔ 0 < Zu x := by rw [dgt_iff hx NF_zero, Zu_zero]
theorem i2d_Z {v : Int32} (h : 0 ≤ v.toInt) : NF (FP.i2d v) ∧ Zu (FP.i2d v) = v.toInt.toNat * P1 := by
  have h1 := FP.Core.i2d_int v
  have h2 := FP.Core.DInt_zval h1
  have e0 := FP.Core.val64_i2d v
  have hn := FP.Core.DInt_ne_nan h1
  have e1 : FP.Core.val64 (FP.Core.i2d v) = FP.Core.roundRatio FP.Core.b64 false v.toInt.natAbs 1 0 := by
    rw [e0]
    show FP.Core.roundRatio FP.Core.b64 (decide (v.toInt < 0)) _ _ _ = _
    rw [decide_eq_false (by omega)]
  have nf : NF (FP.i2d v) := by
    rcases FP.Core.roundRatio_cases FP.Core.b64 false v.toInt.natAbs 1 0 with h3 | h3
    · obtain ⟨c, q, h3⟩ := h3; exact ⟨c, q, e1.trans h3⟩
    · have h4 : FP.Core.Whole v.toInt (FP.Core.val64 (FP.Core.i2d v)) := h1
      rw [e1, h3] at h4
      exact h4.elim
  refine ⟨nf, ?_⟩
  have h5 := nf.z
  rw [show FP.i2d v = FP.Core.i2d v from rfl] at h5 ⊢
  rw [h2] at h5
  have h6 : (v.toInt.toNat : Int) = v.toInt := Int.toNat_of_nonneg h
  have h7 : ((v.toInt.toNat * P1 : Nat) : Int) = v.toInt * (P1 : Int) := by rw [Int.natCast_mul, h6]
  exact Int.ofNat_inj.mp (h5.symm.trans h7.symm)
