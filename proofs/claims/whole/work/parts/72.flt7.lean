section GEs
variable {n : Nat} {inf out : Nat → Int32} {e : Nat → Nat → UInt64}
theorem ge_row (hn : 3 ≤ n ∧ n ≤ 6) (h : GE n inf out e) {i : Nat} (hi : i < n) : NF (rowS e n i) ∧ Zu (rowS e n i) ≤ n * 2 ^ 1089 ∧ ∀ j : Nat, j < n → Zu (e i j) ≤ Zu (rowS e n i) :=
  sumD_bd (f := e i) (t := 1089) (by decide) hn.2 (fun j hj => h.1 i j hi hj) n (Nat.le_refl _)
theorem ge_col (hn : 3 ≤ n ∧ n ≤ 6) (h : GE n inf out e) {j : Nat} (hj : j < n) : NF (colS e n j) :=
  (sumD_bd (f := fun i => e i j) (t := 1089) (by decide) hn.2 (fun i hi => h.1 i j hi hj) n (Nat.le_refl _)).1
theorem ge_okR (hn : 3 ≤ n ∧ n ≤ 6) (h : GE n inf out e) {i : Nat} (hi : i < n) : okR e n i := fun k hk => by
  have := (sumD_bd (f := e i) (t := 1089) (by decide) hn.2 (fun j hj => h.1 i j hi hj) (k + 1) hk).1.v
  rw [sumD_suc] at this; exact this
theorem ge_okC (hn : 3 ≤ n ∧ n ≤ 6) (h : GE n inf out e) {j : Nat} (hj : j < n) : okC e n j := fun k hk => by
  have := (sumD_bd (f := fun i => e i j) (t := 1089) (by decide) hn.2 (fun i hi => h.1 i j hi hj) (k + 1) hk).1.v
  rw [sumD_suc] at this; exact this
theorem ge_okF (hn : 3 ≤ n ∧ n ≤ 6) (hI : BD n inf) (hO : BD n out) (h : GE n inf out e) : okF n inf out e := fun k hk =>
  ⟨ge_okR hn h hk, ge_okC hn h hk, far_dist (ge_row hn h hk).1 (i2d_Z (hI k hk).1).1, far_dist (ge_col hn h hk) (i2d_Z (hO k hk).1).1⟩
theorem ge_okM (hn : 3 ≤ n ∧ n ≤ 6) (hI : BD n inf) (hO : BD n out) (h : GE n inf out e) : okM n inf out e := fun k hk =>
  ⟨ge_okR hn h hk, ge_okC hn h hk, n64_of (sub_n (ge_row hn h hk).1 (i2d_Z (hI k hk).1).1), n64_of (sub_n (ge_col hn h hk) (i2d_Z (hO k hk).1).1)⟩
theorem ge_share (hn : 3 ≤ n ∧ n ≤ 6) (h : GE n inf out e) {i k : Nat} (hi : i < n) (hk : k < n) (hd : dgt (rowS e n i) FP.dconst0 = true) : vf_n64 (FP.ddiv (e i k) (rowS e n i)) :=
  div_v (h.1 i k hi hk).1 (ge_row hn h hi).1 ((dgt0 (ge_row hn h hi).1).mp hd)
theorem ge_shr (hn : 3 ≤ n ∧ n ≤ 6) (h : GE n inf out e) {i k : Nat} (hi : i < n) (hk : k < n) : vf_n64 (shr n e i k) := by
  unfold shr
  by_cases hd : dgt (rowS e n i) FP.dconst0 = true
  · rw [if_pos hd]; exact ge_share hn h hi hk hd
  · rw [if_neg hd]; exact NF_zero.v
theorem ge_mul (h : GE n inf out e) {a b c d : Nat} (ha : a < n) (hb : b < n) (hc : c < n) (hd : d < n) : NF (FP.dmul (e a c) (e b d)) :=
  (mul_le (h.1 a c ha hc).1 (h.1 b d hb hd).1 (M := 2 ^ 1104) (RP_two (by decide)) (by
    refine Nat.le_trans (Nat.mul_le_mul (h.1 a c ha hc).2 (h.1 b d hb hd).2) ?_
    rw [P1_eq, ← Nat.pow_add, ← Nat.pow_add]
    exact Nat.le_refl _)).1
theorem ge_quo (h : GE n inf out e) {a b c d : Nat} (ha : a < n) (hb : b < n) (hc : c < n) (hd : d < n) (hs : dgt (FP.dmul (e a d) (e b c)) FP.dconst0 = true) : vf_n64 (FP.ddiv (FP.dmul (e a c) (e b d)) (FP.dmul (e a d) (e b c))) :=
  div_v (ge_mul h ha hb hc hd) (ge_mul h ha hb hd hc) ((dgt0 (ge_mul h ha hb hd hc)).mp hs)
theorem ge_mis (hn : 3 ≤ n ∧ n ≤ 6) (hI : BD n inf) (hO : BD n out) (h : GE n inf out e) : ∀ k : Nat, k ≤ n → FP.Core.val64 (misK n inf out e k) ≠ .nan := by
  intro k
  induction k with
  | zero => intro _; rw [show misK n inf out e 0 = FP.dconst0 from itN_zero _ _]; exact NF_zero.n
  | succ k ih =>
    intro hk
    have e1 : misK n inf out e (k + 1) = misB n inf out e k (misK n inf out e k) := itN_succ _ _ _
    have d1 := dist_n (ge_row hn h (i := k) (by omega)).1 (i2d_Z (hI k (by omega)).1).1
    have d2 := dist_n (ge_col hn h (j := k) (by omega)) (i2d_Z (hO k (by omega)).1).1
    have i1 := ih (by omega)
    rw [e1]
    unfold misB
    repeat' split
    all_goals first | exact d2 | exact d1 | exact i1
theorem RP_sh {M k : Nat} (h : RP M) (hM : M ≤ 2 ^ 1100) (hk : k ≤ 900) : RP (M * 2 ^ k) := by
  obtain ⟨V, h1, ⟨c, q, h2⟩, h3⟩ := h
  subst h2
  have hz : M = c * 2 ^ (q - FP.Core.b64.qmin).toNat := h3.symm
  have hc : c < 2 ^ 53 := h1.1
  rcases Nat.eq_zero_or_pos c with h0 | h0
  · rw [hz, h0, Nat.zero_mul, Nat.zero_mul]; exact RP_0
  · have h5 : 2 ^ (q - FP.Core.b64.qmin).toNat ≤ 2 ^ 1100 := Nat.le_trans (Nat.le_mul_of_pos_left _ h0) (by rw [← hz]; exact hM)
    have h6 := (Nat.pow_le_pow_iff_right (by decide : 1 < 2)).mp h5
    rw [hz, Nat.mul_assoc, ← Nat.pow_add]
    exact RP_pow hc (by omega)
theorem ge_xv (hn : 3 ≤ n ∧ n ≤ 6) (hI : BD n inf) (h : GE n inf out e) {i j : Nat} (hi : i < n) (hj : j < n) : NF (xv n inf e i j) ∧ Zu (xv n inf e i j) ≤ 2 ^ 1088 ∧ (dgt (rowS e n i) FP.dconst0 = true → vf_n64 (FP.dmul (e i j) (FP.i2d (inf i))) ∧ vf_n64 (FP.ddiv (FP.dmul (e i j) (FP.i2d (inf i))) (rowS e n i))) := by
  obtain ⟨s1, s2, s3⟩ := ge_row hn h hi
  obtain ⟨i1, i2⟩ := i2d_Z (hI i hi).1
  have hA : (inf i).toInt.toNat ≤ 2 ^ 14 := by have := (hI i hi).2; omega
  have hS : Zu (rowS e n i) ≤ 2 ^ 1100 := by
    refine Nat.le_trans s2 (Nat.le_trans (Nat.mul_le_mul_right _ (Nat.le_trans hn.2 (show 6 ≤ 2 ^ 3 by decide))) ?_)
    rw [← Nat.pow_add]; exact pw_le (by decide)
  obtain ⟨m1, m2⟩ := mul_le (h.1 i j hi hj).1 i1 (M := Zu (rowS e n i) * 2 ^ 14) (RP_sh s1.rp hS (by decide)) (by
    rw [i2, ← Nat.mul_assoc]
    exact Nat.mul_le_mul_right _ (Nat.mul_le_mul (s3 j hj) hA))
  unfold xv
  by_cases hd : dgt (rowS e n i) FP.dconst0 = true
  · have hp := (dgt0 s1).mp hd
    obtain ⟨d1, d2⟩ := div_le m1 s1 hp (M := 2 ^ 1088) (RP_two (by decide)) (by
      refine Nat.le_trans (Nat.mul_le_mul_right _ m2) ?_
      rw [P1_eq, Nat.mul_assoc, ← Nat.pow_add, Nat.mul_comm]
      exact Nat.le_refl _)
    rw [if_pos hd]
    exact ⟨d1, d2, fun _ => ⟨m1.v, d1.v⟩⟩
  · rw [if_neg hd]
    exact ⟨NF_zero, by rw [Zu_zero]; exact Nat.zero_le _, fun q => absurd q hd⟩
theorem ge_wv (hn : 3 ≤ n ∧ n ≤ 6) (hI : BD n inf) (h : GE n inf out e) {i j : Nat} (hi : i < n) (hj : j < n) : (wv n inf e i j).toInt = ((Zu (xv n inf e i j) / P1 : Nat) : Int) ∧ (wv n inf e i j).toInt ≤ 131072 := by
  obtain ⟨x1, x2, -⟩ := ge_xv hn hI h hi hj
  have h1 := FP.Core.d2i_val x1.n
  have hs : FP.Core.sgn (FP.Core.val64 (xv n inf e i j)) = false := by obtain ⟨c, q, hh⟩ := x1; rw [hh]; rfl
  have hq : Zu (xv n inf e i j) / P1 ≤ 2 ^ 14 := by
    refine Nat.div_le_of_le_mul ?_
    refine Nat.le_trans x2 ?_
    rw [P1_eq, ← Nat.pow_add]; exact Nat.le_refl _
  rw [hs] at h1
  have h2 : (wv n inf e i j).toInt = max (-2 ^ 31) (min (2 ^ 31 - 1) ((Zu (xv n inf e i j) / P1 : Nat) : Int)) := h1
  rw [h2]
  generalize Zu (xv n inf e i j) / P1 = k at hq
  omega
theorem ge_fv (hn : 3 ≤ n ∧ n ≤ 6) (hI : BD n inf) (h : GE n inf out e) {i j : Nat} (hi : i < n) (hj : j < n) : FP.Core.val64 (fv n inf e i j) ≠ .nan ∧ 0 ≤ FP.Core.zval FP.Core.b64 (FP.Core.val64 (fv n inf e i j)) := by
  obtain ⟨x1, x2, -⟩ := ge_xv hn hI h hi hj
  obtain ⟨w1, w2⟩ := ge_wv hn hI h hi hj
  obtain ⟨i1, i2⟩ := i2d_Z (v := wv n inf e i j) (by rw [w1]; exact Int.natCast_nonneg _)
  refine ⟨sub_n x1 i1, (sub_sg x1 i1).1 ?_⟩
  rw [i2, w1, Int.toNat_natCast]
  exact Nat.div_mul_le_self _ _
theorem m1_z : FP.Core.zval FP.Core.b64 (FP.Core.val64 m1) < 0 ∧ FP.Core.val64 m1 ≠ .nan := by decide +kernel
theorem NN_of {x : UInt64} (hn : FP.Core.val64 x ≠ .nan) (h : 0 ≤ FP.Core.zval FP.Core.b64 (FP.Core.val64 x)) : NN x := by
  have hz := NF_zero.z
  rw [Zu_zero] at hz
  have hm := m1_z
  refine ⟨?_, ?_, ?_⟩
  · unfold dge
    rw [Bool.or_eq_true, beq_iff_eq, beq_iff_eq]
    exact FP.Core.dcmp_ge.mpr ⟨hn, NF_zero.n, by rw [hz]; exact h⟩
  · unfold dgt
    rw [beq_iff_eq]
    exact FP.Core.dcmp_gt.mpr ⟨hn, hm.2, by omega⟩
  · cases hd : dgt m1 x with
    | false => rfl
    | true =>
      unfold dgt at hd
      rw [beq_iff_eq] at hd
      have := (FP.Core.dcmp_gt.mp hd).2.2
      omega
theorem ge_FX (hn : 3 ≤ n ∧ n ≤ 6) (hI : BD n inf) (h : GE n inf out e) {i : Nat} (hi : i < n) : FX n inf e i :=
  ⟨fun j hj => NN_of (ge_fv hn hI h hi hj).1 (ge_fv hn hI h hi hj).2, fun j hj => ⟨by rw [(ge_wv hn hI h hi hj).1]; exact Int.natCast_nonneg _, (ge_wv hn hI h hi hj).2⟩⟩
theorem ge_okX (hn : 3 ≤ n ∧ n ≤ 6) (hI : BD n inf) (h : GE n inf out e) {i : Nat} (hi : i < n) : okX n inf e i :=
  ⟨ge_okR hn h hi, fun hd j hj => (ge_xv hn hI h hi hj).2.2 hd, fun j hj => n64_of (ge_fv hn hI h hi hj).1⟩
theorem ge_rndK (hn : 3 ≤ n ∧ n ≤ 6) (hI : BD n inf) (hO : BD n out) (h : GE n inf out e) : ∀ k : Nat, GE n inf out (rndK n inf out k e) ∧ okRnd n inf out (rndK n inf out k e) := by
  intro k
  have key : GE n inf out (rndK n inf out k e) := by
    induction k with
    | zero => rw [show rndK n inf out 0 e = e from itN_zero _ _]; exact h
    | succ k ih => rw [show rndK n inf out (k + 1) e = rnd n inf out (rndK n inf out k e) from itN_succ _ _ _]; exact (GE_rnd hn hI hO ih).2
  exact ⟨key, (GE_rnd hn hI hO key).1⟩
theorem dvT_v {t : Nat} (ht : t ≤ 100000) : vf_n64 (dvT (nI t)) := by
  have h1 : NF 4652007308841189376 := ⟨_, _, k1000⟩
  have h2 : 0 < Zu 4652007308841189376 := by
    unfold Zu
    rw [k1000]
    exact Nat.mul_pos (by decide) (Nat.two_pow_pos _)
  exact div_v (i2d_Z (by rw [nI_toInt (by omega)]; exact Int.natCast_nonneg _)).1 h1 h2
theorem ge_dig (hn : 3 ≤ n ∧ n ≤ 6) (hI : BD n inf) (hO : BD n out) (h : GE n inf out e) : vf_n64 (FP.dmul (misK n inf out e n) 4652007308841189376) ∧ ∀ i j : Nat, i < n → j < n → vf_n64 (FP.dmul (e i j) 4652007308841189376) :=
  ⟨mul_k (ge_mis hn hI hO h n (Nat.le_refl _)), fun i j hi hj => mul_k (h.1 i j hi hj).1.n⟩
end GEs
