/-! differences; what the contracts ask of the estimate -/
theorem sumU {c d : Nat} {q r : Int} : FP.Core.sumUnits false c q true d r (min q r) = (FP.Core.inUnits c q (min q r) : Int) - (FP.Core.inUnits d r (min q r) : Int) := by
  unfold FP.Core.sumUnits FP.Core.signed
  simp only [Bool.false_eq_true, if_false, if_true]; omega
theorem unit_lt {c d : Nat} {q r e : Int} (h1 : e ≤ q) (h2 : e ≤ r) : (FP.Core.inUnits c q (min q r) < FP.Core.inUnits d r (min q r) ↔ FP.Core.inUnits c q e < FP.Core.inUnits d r e) := by
  have e1 : FP.Core.inUnits c q e = FP.Core.inUnits c q (min q r) * 2 ^ ((min q r) - e).toNat := by
    unfold FP.Core.inUnits
    rw [Nat.mul_assoc, ← Nat.pow_add]; congr 2; omega
  have e2 : FP.Core.inUnits d r e = FP.Core.inUnits d r (min q r) * 2 ^ ((min q r) - e).toNat := by
    unfold FP.Core.inUnits
    rw [Nat.mul_assoc, ← Nat.pow_add]; congr 2; omega
  rw [e1, e2]
  exact ⟨fun h => Nat.mul_lt_mul_of_pos_right h (Nat.two_pow_pos _), fun h => Nat.lt_of_mul_lt_mul_right h⟩
theorem sub_shape {x y : UInt64} (hx : NF x) (hy : NF y) : ∃ n m, FP.Core.val64 (FP.dsub x y) = FP.Core.round FP.Core.b64 (.fin (decide (Zu x < Zu y)) n m) ∧ FP.Core.val64 (FP.dsub y x) = FP.Core.round FP.Core.b64 (.fin (decide (Zu y < Zu x)) n m) := by
  have e0 := FP.Core.val64_dsub x y
  have e1 := FP.Core.val64_dsub y x
  have fx := FP.Core.val64_fits x
  have fy := FP.Core.val64_fits y
  obtain ⟨c, q, h1⟩ := hx
  obtain ⟨d, r, h2⟩ := hy
  have zx : Zu x = FP.Core.inUnits c q FP.Core.b64.qmin := by unfold Zu; rw [h1]; rfl
  have zy : Zu y = FP.Core.inUnits d r FP.Core.b64.qmin := by unfold Zu; rw [h2]; rfl
  rw [h1] at fx; rw [h2] at fy
  have u1 := unit_lt (c := c) (d := d) fx.2.1 fy.2.1
  have u2 := unit_lt (c := d) (d := c) fy.2.1 fx.2.1
  rw [← zx, ← zy] at u1
  rw [← zx, ← zy] at u2
  rw [h1, h2] at e0 e1
  have s1 := sumU (c := c) (d := d) (q := q) (r := r)
  have s2 := sumU (c := d) (d := c) (q := r) (r := q)
  have hm : min r q = min q r := by omega
  rw [hm] at s2 u2
  refine ⟨(FP.Core.sumUnits false c q true d r (min q r)).natAbs, min q r, ?_, ?_⟩
  · rw [show FP.dsub x y = FP.Core.dsub x y from rfl, e0]
    show FP.Core.round FP.Core.b64 (.fin (FP.Core.sumSign false true (FP.Core.sumUnits false c q true d r (min q r))) (FP.Core.sumUnits false c q true d r (min q r)).natAbs (min q r)) = _
    congr 2
    unfold FP.Core.sumSign
    split
    · exact (decide_eq_false (fun z => by have := u1.mpr z; omega)).symm
    · by_cases z : Zu x < Zu y
      · rw [decide_eq_true z, decide_eq_true]; have := u1.mpr z; omega
      · rw [decide_eq_false z, decide_eq_false]; intro k; exact z (u1.mp (by omega))
  · rw [show FP.dsub y x = FP.Core.dsub y x from rfl, e1]
    show FP.Core.round FP.Core.b64 (.fin (FP.Core.sumSign false true (FP.Core.sumUnits false d r true c q (min r q))) (FP.Core.sumUnits false d r true c q (min r q)).natAbs (min r q)) = _
    rw [hm]
    congr 2
    · unfold FP.Core.sumSign
      split
      · exact (decide_eq_false (fun z => by have := u2.mpr z; omega)).symm
      · by_cases z : Zu y < Zu x
        · rw [decide_eq_true z, decide_eq_true]; have := u2.mpr z; omega
        · rw [decide_eq_false z, decide_eq_false]; intro k; exact z (u2.mp (by omega))
    · rw [s1, s2]; omega
theorem rr_n {s : Bool} {n : Nat} {m : Int} : FP.Core.round FP.Core.b64 (.fin s n m) ≠ .nan := FP.Core.roundRatio_ne_nan FP.Core.b64 s n 1 m
theorem sub_n {x y : UInt64} (hx : NF x) (hy : NF y) : FP.Core.val64 (FP.dsub x y) ≠ .nan := by
  obtain ⟨n, m, h1, -⟩ := sub_shape hx hy
  rw [h1]; exact rr_n
theorem sub_sg {x y : UInt64} (hx : NF x) (hy : NF y) : (Zu y ≤ Zu x → 0 ≤ FP.Core.zval FP.Core.b64 (FP.Core.val64 (FP.dsub x y))) ∧ (Zu x < Zu y → FP.Core.zval FP.Core.b64 (FP.Core.val64 (FP.dsub x y)) < 0) := by
  have zx := hx.z
  have zy := hy.z
  have e0 : FP.Core.val64 (FP.dsub x y) = FP.Core.round FP.Core.b64 (FP.Core.exactSum (FP.Core.val64 x) (FP.Core.negate (FP.Core.val64 y))) := FP.Core.val64_dsub x y
  have fx := FP.Core.val64_fits x
  have fy := FP.Core.negate_fits (FP.Core.val64_fits y)
  have zn := FP.Core.zval_negate FP.Core.b64 (FP.Core.val64 y)
  have hx' : ∃ s c q, FP.Core.val64 x = .fin s c q := by obtain ⟨c, q, h⟩ := hx; exact ⟨_, _, _, h⟩
  have hy' : ∃ s c q, FP.Core.negate (FP.Core.val64 y) = .fin s c q := by obtain ⟨c, q, h⟩ := hy; exact ⟨true, c, q, by rw [h]; rfl⟩
  rw [e0]
  refine ⟨fun h => ?_, fun h => ?_⟩
  · have hz : FP.Core.zval FP.Core.b64 (.fin false 0 FP.Core.b64.qmin) = 0 := by decide +kernel
    have := FP.Core.sum_ge FP.Core.good_b64 hx' hy' fx fy (V := .fin false 0 FP.Core.b64.qmin) (FP.Core.zero_fits FP.Core.good_b64 false) (fun q => by cases q) (by rw [hz, zn, zx, zy]; omega)
    rw [hz] at this; exact this
  · obtain ⟨V, v1, ⟨c, q, v2⟩, v3⟩ := RP_two (m := 0) (by decide)
    have hz : FP.Core.zval FP.Core.b64 (FP.Core.negate V) = -1 := by
      rw [FP.Core.zval_negate]
      unfold FP.Core.zval
      rw [v3, v2]; rfl
    have := FP.Core.sum_le FP.Core.good_b64 hx' hy' fx fy (V := FP.Core.negate V) (FP.Core.negate_fits v1) (by rw [v2]; exact fun q => by cases q) (by rw [hz, zn, zx, zy]; omega)
    rw [hz] at this; omega
theorem dlt_0 {x : UInt64} (hx : FP.Core.val64 x ≠ .nan) : dlt x FP.dconst0 = true ↔ FP.Core.zval FP.Core.b64 (FP.Core.val64 x) < 0 := by
  have hz := NF_zero.z
  rw [Zu_zero] at hz
  unfold dlt
  rw [beq_iff_eq, show FP.dcmp x FP.dconst0 = FP.Core.dcmp x FP.dconst0 from rfl, FP.Core.dcmp_lt, hz]
  exact ⟨fun h => h.2.2, fun h => ⟨hx, NF_zero.n, h⟩⟩
theorem far_dist {x y : UInt64} (hx : NF x) (hy : NF y) : frP x y := by
  refine ⟨n64_of (sub_n hx hy), n64_of (sub_n hy hx), ?_⟩
  obtain ⟨n, m, h1, h2⟩ := sub_shape hx hy
  have hs := sub_sg hx hy
  have hl := dlt_0 (sub_n hx hy)
  unfold far dist
  by_cases hg : Zu y < Zu x
  · rw [if_pos ((dgt_iff hx hy).mpr hg), if_neg]
    intro q
    have := hl.mp q
    have := hs.1 (by omega)
    omega
  · rw [if_neg (fun q => hg ((dgt_iff hx hy).mp q))]
    by_cases he : Zu x < Zu y
    · rw [if_pos (hl.mpr (hs.2 he))]
      refine FP.Core.val64_inj (sub_n hy hx) ?_
      rw [FP.val64_dneg, h1, h2, FP.Core.negate_round, decide_eq_true he, decide_eq_false hg]
      rfl
    · rw [if_neg]
      · refine FP.Core.val64_inj (sub_n hy hx) ?_
        rw [h1, h2, decide_eq_false he, decide_eq_false hg]
      · intro q
        have := hl.mp q
        have := hs.1 (by omega)
        omega
theorem dist_n {x y : UInt64} (hx : NF x) (hy : NF y) : FP.Core.val64 (dist x y) ≠ .nan := by
  unfold dist
  split
  · rw [FP.val64_dneg]
    exact FP.Core.negate_ne_nan (sub_n hx hy)
  · exact sub_n hx hy
theorem mul_v {x y : UInt64} (hx : NF x) (hy : NF y) : vf_n64 (FP.dmul x y) := by
  obtain ⟨n, e, h, -⟩ := mul_shape hx hy
  exact n64_of (by rw [h]; exact FP.Core.roundRatio_ne_nan _ _ _ _ _)
theorem div_v {x y : UInt64} (hx : NF x) (hy : NF y) (hz : 0 < Zu y) : vf_n64 (FP.ddiv x y) := by
  obtain ⟨c, d, q, r, h, -⟩ := div_shape hx hy hz
  exact n64_of (by rw [h]; exact FP.Core.roundRatio_ne_nan _ _ _ _ _)
theorem k1000 : FP.Core.val64 4652007308841189376 = .fin false 8796093022208000 (-43) := by decide +kernel
theorem mul_k {x : UInt64} (hx : FP.Core.val64 x ≠ .nan) : vf_n64 (FP.dmul x 4652007308841189376) := by
  refine n64_of ?_
  rw [show FP.dmul x 4652007308841189376 = FP.Core.dmul x 4652007308841189376 from rfl, FP.Core.val64_dmul, k1000]
  cases h : FP.Core.val64 x with
  | nan => exact absurd h hx
  | inf s =>
    show FP.Core.round FP.Core.b64 (if (8796093022208000 : Nat) = 0 then .nan else .inf (s != false)) ≠ .nan
    rw [if_neg (by decide)]; exact fun q => by cases q
  | fin s c q => exact rr_n
