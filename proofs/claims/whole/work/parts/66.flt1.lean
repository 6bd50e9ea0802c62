/-! numbers not below zero, in units of the least one -/
def NF (x : UInt64) : Prop := ∃ c q, FP.Core.val64 x = .fin false c q
def Zu (x : UInt64) : Nat := FP.Core.zmag FP.Core.b64 (FP.Core.val64 x)
def RP (M : Nat) : Prop := ∃ V, FP.Core.fits FP.Core.b64 V ∧ (∃ c q, V = .fin false c q) ∧ FP.Core.zmag FP.Core.b64 V = M
abbrev P1 : Nat := FP.Core.one64
theorem NF.n {x : UInt64} (h : NF x) : FP.Core.val64 x ≠ .nan := by obtain ⟨c, q, h⟩ := h; rw [h]; exact fun e => by cases e
theorem NF.rp {x : UInt64} (h : NF x) : RP (Zu x) := ⟨_, FP.Core.val64_fits x, h, rfl⟩
theorem NF.z {x : UInt64} (h : NF x) : FP.Core.zval FP.Core.b64 (FP.Core.val64 x) = (Zu x : Int) := by
  obtain ⟨c, q, h1⟩ := h
  unfold FP.Core.zval Zu
  rw [h1]; rfl
theorem n64_of {x : UInt64} (h : FP.Core.val64 x ≠ .nan) : vf_n64 x := by
  have h1 := (FP.Core.ne_nan x).mp h
  unfold vf_n64
  rw [UInt64.le_iff_toNat_le, FP.Core.mask_toNat]
  exact h1
theorem NF.v {x : UInt64} (h : NF x) : vf_n64 x := n64_of h.n
theorem RP_pow {c k : Nat} (hc : c < 2 ^ 53) (hk : k ≤ 2045) : RP (c * 2 ^ k) := by
  have hq : FP.Core.b64.qmin = -1074 := FP.Core.qmin_b64
  have hx : FP.Core.b64.qmax = 971 := by decide
  obtain ⟨c', q', h1, h2⟩ := FP.Core.round_exact FP.Core.good_b64 false (c := c) (q := FP.Core.b64.qmin + k) hc (by omega) (by omega)
  refine ⟨_, FP.Core.round_fits FP.Core.good_b64 _, ⟨c', q', h1⟩, ?_⟩
  rw [h1]
  show FP.Core.inUnits c' q' FP.Core.b64.qmin = _
  rw [h2]
  unfold FP.Core.inUnits
  rw [show (FP.Core.b64.qmin + (k : Int) - FP.Core.b64.qmin).toNat = k by omega]
theorem top_no {V : FP.Core.Datum} (h : FP.Core.fits FP.Core.b64 V) (hv : ∃ c q, V = .fin false c q) {X : FP.Core.Datum} (hX : (∃ c q, X = .fin false c q) ∨ X = .inf false) (hle : FP.Core.zmag FP.Core.b64 X ≤ FP.Core.zmag FP.Core.b64 V) : ∃ c q, X = .fin false c q := by
  rcases hX with h1 | h1
  · exact h1
  · obtain ⟨c, q, rfl⟩ := hv
    have h2 := FP.Core.zmag_lt_top FP.Core.good_b64 h
    subst h1
    exact absurd (Nat.lt_of_lt_of_le h2 hle) (Nat.lt_irrefl _)
theorem rr_le {A B : Nat} {e e0 : Int} {M : Nat} (hM : RP M) (hB : 0 < B) (h0 : e0 ≤ FP.Core.b64.qmin) (h0e : e0 ≤ e) (h : FP.Core.inUnits A e e0 ≤ M * 2 ^ (FP.Core.b64.qmin - e0).toNat * B) : (∃ c q, FP.Core.roundRatio FP.Core.b64 false A B e = .fin false c q) ∧ FP.Core.zmag FP.Core.b64 (FP.Core.roundRatio FP.Core.b64 false A B e) ≤ M := by
  obtain ⟨V, h1, h2, h3⟩ := hM
  have h4 := FP.Core.zmag_roundRatio_le FP.Core.good_b64 (s := false) hB h1 (by obtain ⟨c, q, rfl⟩ := h2; exact fun x => by cases x) h0 h0e (by rw [h3]; exact h)
  exact ⟨top_no h1 h2 (FP.Core.roundRatio_cases FP.Core.b64 false A B e) h4, by rw [← h3]; exact h4⟩
theorem rr_ge {A B : Nat} {e e0 : Int} {M : Nat} (hM : RP M) (hB : 0 < B) (h0 : e0 ≤ FP.Core.b64.qmin) (h0e : e0 ≤ e) (h : M * 2 ^ (FP.Core.b64.qmin - e0).toNat * B ≤ FP.Core.inUnits A e e0) : M ≤ FP.Core.zmag FP.Core.b64 (FP.Core.roundRatio FP.Core.b64 false A B e) := by
  obtain ⟨V, h1, h2, h3⟩ := hM
  rw [← h3]
  exact FP.Core.zmag_roundRatio_ge FP.Core.good_b64 hB h1 h0 h0e (by rw [h3]; exact h)
theorem sub0 : (FP.Core.b64.qmin - FP.Core.b64.qmin).toNat = 0 := by decide
theorem sub1 : (FP.Core.b64.qmin - 2 * FP.Core.b64.qmin).toNat = (-FP.Core.b64.qmin).toNat := by decide
theorem add_shape {x y : UInt64} (hx : NF x) (hy : NF y) : ∃ n e, FP.Core.val64 (FP.dadd x y) = FP.Core.roundRatio FP.Core.b64 false n 1 e ∧ FP.Core.b64.qmin ≤ e ∧ FP.Core.inUnits n e FP.Core.b64.qmin = Zu x + Zu y := by
  have e0 := FP.Core.val64_dadd x y
  have fx := FP.Core.val64_fits x
  have fy := FP.Core.val64_fits y
  have zx := hx.z
  have zy := hy.z
  obtain ⟨c, q, h1⟩ := hx
  obtain ⟨d, r, h2⟩ := hy
  rw [h1] at fx zx; rw [h2] at fy zy
  obtain ⟨sg, n, e, h3, h4, h5⟩ := FP.Core.sum_units fx fy
  have hsg : sg = false := by
    have h6 : FP.Core.Datum.fin sg n e = .fin (FP.Core.sumSign false false (FP.Core.sumUnits false c q false d r (min q r))) (FP.Core.sumUnits false c q false d r (min q r)).natAbs (min q r) := h3.symm
    injection h6 with a1 a2 a3
    rw [a1]
    unfold FP.Core.sumSign
    split
    · rfl
    · have : 0 ≤ FP.Core.sumUnits false c q false d r (min q r) := by
        unfold FP.Core.sumUnits FP.Core.signed
        simp only [Bool.false_eq_true, if_false]; omega
      exact decide_eq_false (by omega)
  subst hsg
  refine ⟨n, e, ?_, h4, ?_⟩
  · rw [show FP.dadd x y = FP.Core.dadd x y from rfl, e0, h1, h2, h3]; rfl
  · rw [zx, zy] at h5
    have h7 : ((FP.Core.inUnits n e FP.Core.b64.qmin : Nat) : Int) = (Zu x : Int) + (Zu y : Int) := h5
    omega
theorem add_le {x y : UInt64} (hx : NF x) (hy : NF y) {M : Nat} (hM : RP M) (h : Zu x + Zu y ≤ M) : NF (FP.dadd x y) ∧ Zu (FP.dadd x y) ≤ M := by
  obtain ⟨n, e, h1, h2, h3⟩ := add_shape hx hy
  have := rr_le (A := n) (B := 1) (e := e) (e0 := FP.Core.b64.qmin) hM (by decide) (Int.le_refl _) h2 (by rw [h3, sub0, Nat.pow_zero, Nat.mul_one, Nat.mul_one]; exact h)
  unfold NF Zu
  rw [h1]; exact this
theorem add_ge {x y : UInt64} (hx : NF x) (hy : NF y) {M : Nat} (hM : RP M) (h : M ≤ Zu x + Zu y) : M ≤ Zu (FP.dadd x y) := by
  obtain ⟨n, e, h1, h2, h3⟩ := add_shape hx hy
  have := rr_ge (A := n) (B := 1) (e := e) (e0 := FP.Core.b64.qmin) hM (by decide) (Int.le_refl _) h2 (by rw [h3, sub0, Nat.pow_zero, Nat.mul_one, Nat.mul_one]; exact h)
  unfold Zu
  rw [h1]; exact this
theorem mul_shape {x y : UInt64} (hx : NF x) (hy : NF y) : ∃ n e, FP.Core.val64 (FP.dmul x y) = FP.Core.roundRatio FP.Core.b64 false n 1 e ∧ 2 * FP.Core.b64.qmin ≤ e ∧ FP.Core.inUnits n e (2 * FP.Core.b64.qmin) = Zu x * Zu y := by
  have e0 := FP.Core.val64_dmul x y
  have fx := FP.Core.val64_fits x
  have fy := FP.Core.val64_fits y
  obtain ⟨c, q, h1⟩ := hx
  obtain ⟨d, r, h2⟩ := hy
  rw [h1] at fx; rw [h2] at fy
  obtain ⟨h3, h4, h5⟩ := FP.Core.product_units fx fy
  refine ⟨c * d, q + r, ?_, h4, ?_⟩
  · rw [show FP.dmul x y = FP.Core.dmul x y from rfl, e0, h1, h2, h3]; rfl
  · rw [h5]; unfold Zu; rw [h1, h2]
theorem qm2 : 2 * FP.Core.b64.qmin ≤ FP.Core.b64.qmin := by decide
theorem mul_le {x y : UInt64} (hx : NF x) (hy : NF y) {M : Nat} (hM : RP M) (h : Zu x * Zu y ≤ M * P1) : NF (FP.dmul x y) ∧ Zu (FP.dmul x y) ≤ M := by
  obtain ⟨n, e, h1, h2, h3⟩ := mul_shape hx hy
  have := rr_le (A := n) (B := 1) (e := e) (e0 := 2 * FP.Core.b64.qmin) hM (by decide) qm2 h2 (by rw [h3, sub1, FP.Core.pow_qmin64, Nat.mul_one]; exact h)
  unfold NF Zu
  rw [h1]; exact this
theorem mul_ge {x y : UInt64} (hx : NF x) (hy : NF y) {M : Nat} (hM : RP M) (h : M * P1 ≤ Zu x * Zu y) : M ≤ Zu (FP.dmul x y) := by
  obtain ⟨n, e, h1, h2, h3⟩ := mul_shape hx hy
  have := rr_ge (A := n) (B := 1) (e := e) (e0 := 2 * FP.Core.b64.qmin) hM (by decide) qm2 h2 (by rw [h3, sub1, FP.Core.pow_qmin64, Nat.mul_one]; exact h)
  unfold Zu
  rw [h1]; exact this
