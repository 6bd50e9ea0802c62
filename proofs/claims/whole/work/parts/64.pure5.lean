def TRl (n : Nat) (op : Nat → Nat → Bool) (inf : Nat → Int32) (i k : Nat) (sX : TB) (sM : TM) : Prop :=
  (∀ a b : Nat, a < n → b < n → (a < i ∨ (a = i ∧ b < k)) → sX.1 a b = sM.1 a b) ∧ sM.2.1 i = sX.2.2 ∧ (∀ a : Nat, i < a → a < n → sM.2.1 a = inf a) ∧ (∀ b : Nat, b < n → sM.2.2 b = sX.2.1 b) ∧ BD n sX.2.1 ∧ (0 ≤ sX.2.2.toInt ∧ sX.2.2.toInt ≤ 9999) ∧ NC n op inf sX.2.1 i
theorem BD_upd {n : Nat} {f : Nat → Int32} {j : Nat} {x : Int32} (h : BD n f) (hx : 0 ≤ x.toInt ∧ x.toInt ≤ 9999) : BD n (upd f j x) := by
  intro a ha
  unfold upd
  by_cases h1 : a = j
  · rw [if_pos h1]; exact hx
  · rw [if_neg h1]; exact h a ha
theorem TRl_step {n : Nat} (hn : n ≤ 6) {op : Nat → Nat → Bool} {inf : Nat → Int32} (h1 : BD n inf) {i k : Nat} (hi : i < n) (hk : k < n) {sX : TB} {sM : TM} (h : TRl n op inf i k sX sM) : TRl n op inf i (k + 1) (tbB n op inf true i k sX) (ltB n op i k sM) := by
  obtain ⟨pX, ol, x0⟩ := sX
  obtain ⟨pM, rl, oc⟩ := sM
  obtain ⟨a1, a2, a3, a4, a5, a6, a7⟩ := h
  dsimp only at a1 a2 a3 a4 a5 a6 a7
  have e1 : gps n op inf ol i k x0 = lcV n op rl oc i k := gps_lcV hn h1 a5 hi hk a4 a2 a3 a6.2
  obtain ⟨b1, b2, b3, b4⟩ := gps_bd hn h1 a5 hi hk a7 a6.1
  have e2 : tbB n op inf true i k (pX, ol, x0) = (upd2 pX i k (gps n op inf ol i k x0), upd ol k (ol k - gps n op inf ol i k x0), x0 - gps n op inf ol i k x0) := if_pos rfl
  have e3 : ltB n op i k (pM, rl, oc) = (upd2 pM i k (lcV n op rl oc i k), upd rl i (rl i - lcV n op rl oc i k), upd oc k (oc k - lcV n op rl oc i k)) := rfl
  rw [e2, e3, ← e1]
  have c1 := a5 k hk
  have d1 : (ol k - gps n op inf ol i k x0).toInt = (ol k).toInt - (gps n op inf ol i k x0).toInt := toInt_subS (by omega) (by omega)
  have d2 : (x0 - gps n op inf ol i k x0).toInt = x0.toInt - (gps n op inf ol i k x0).toInt := toInt_subS (by omega) (by omega)
  generalize gps n op inf ol i k x0 = v at *
  refine ⟨fun a b ha hb hab => ?_, ?_, fun a ha han => ?_, fun b hb => ?_, BD_upd a5 (by omega), by dsimp only; omega, b4⟩
  · show upd2 pX i k v a b = upd2 pM i k v a b
    unfold upd2
    by_cases hq : a = i ∧ b = k
    · rw [if_pos hq, if_pos hq]
    · rw [if_neg hq, if_neg hq]
      exact a1 a b ha hb (by omega)
  · show upd rl i (rl i - v) i = x0 - v
    unfold upd
    rw [if_pos rfl, a2]
  · show upd rl i (rl i - v) a = inf a
    unfold upd
    rw [if_neg (by omega)]
    exact a3 a ha han
  · show upd oc k (oc k - v) b = upd ol k (ol k - v) b
    unfold upd
    rw [a4 k hk, a4 b hb]
theorem TRl_row {n : Nat} (hn : n ≤ 6) {op : Nat → Nat → Bool} {inf : Nat → Int32} (h1 : BD n inf) {i : Nat} (hi : i < n) {sX : TB} {sM : TM} (h : TRl n op inf i 0 sX sM) : ∀ k : Nat, k ≤ n → TRl n op inf i k (tbI n op inf true i k sX) (ltI n op i k sM) := by
  intro k
  induction k with
  | zero => exact fun _ => h
  | succ k ih => exact fun hk => TRl_step hn h1 hi (by omega) (ih (by omega))
def TRo (n : Nat) (op : Nat → Nat → Bool) (inf : Nat → Int32) (k : Nat) (sX : (Nat → Nat → Int32) × (Nat → Int32)) (sM : TM) : Prop :=
  (∀ a b : Nat, a < n → b < n → a < k → sX.1 a b = sM.1 a b) ∧ (∀ a : Nat, k ≤ a → a < n → sM.2.1 a = inf a) ∧ (∀ b : Nat, b < n → sM.2.2 b = sX.2 b) ∧ BD n sX.2 ∧ NC n op inf sX.2 k
theorem NC_up {n : Nat} {op : Nat → Nat → Bool} {inf ol : Nat → Int32} {i : Nat} (h : NC n op inf ol i) : NC n op inf ol (i + 1) := fun s hs hm => h s hs (by
  have h1 : (2 ^ (i + 1)) ∣ (2 ^ (i + 1 + 1)) := Nat.pow_dvd_pow 2 (by omega)
  exact Nat.mod_eq_zero_of_dvd (Nat.dvd_trans h1 (Nat.dvd_of_mod_eq_zero hm)))
theorem TRo_all {n : Nat} (hn : n ≤ 6) {op : Nat → Nat → Bool} {inf : Nat → Int32} (h1 : BD n inf) {sX : (Nat → Nat → Int32) × (Nat → Int32)} {sM : TM} (h : TRo n op inf 0 sX sM) : ∀ k : Nat, k ≤ n → TRo n op inf k (tbO n op inf true k sX) (ltO n op k sM) := by
  intro k
  induction k with
  | zero => exact fun _ => h
  | succ k ih =>
    intro hk
    obtain ⟨a1, a2, a3, a4, a5⟩ := ih (by omega)
    have e1 : tbO n op inf true (k + 1) sX = ((tbI n op inf true k n ((tbO n op inf true k sX).1, (tbO n op inf true k sX).2, inf k)).1, (tbI n op inf true k n ((tbO n op inf true k sX).1, (tbO n op inf true k sX).2, inf k)).2.1) := itN_succ _ _ _
    have e2 : ltO n op (k + 1) sM = ltI n op k n (ltO n op k sM) := itN_succ _ _ _
    rw [e1, e2]
    generalize tbO n op inf true k sX = tX at *
    generalize ltO n op k sM = tM at *
    have h2 : TRl n op inf k 0 (tX.1, tX.2, inf k) tM := ⟨fun a b ha hb hab => a1 a b ha hb (by omega), a2 k (Nat.le_refl _) (by omega), fun a ha han => a2 a (by omega) han, a3, a4, h1 k (by omega), a5⟩
    obtain ⟨b1, b2, b3, b4, b5, b6, b7⟩ := TRl_row hn h1 (by omega) h2 n (Nat.le_refl _)
    exact ⟨fun a b ha hb hab => b1 a b ha hb (by omega), fun a ha han => b3 a (by omega) han, b4, b5, NC_up b7⟩
theorem crdF_m1 {P : Nat → Bool} : ∀ j k : Nat, k + j < 2 ^ 31 → crdF P j k = -1 → ∀ m : Nat, m < j → P (k + m) = false := by
  intro j
  induction j with
  | zero => intro k _ _ m hm; omega
  | succ j ih =>
    intro k hk h m hm
    have e : crdF P (j + 1) k = if P k = true then nI k else crdF P j (k + 1) := rfl
    rw [e] at h
    by_cases hp : P k = true
    · rw [if_pos hp] at h
      exact absurd h (nI_ne_m1 (by omega))
    · rw [if_neg hp] at h
      cases m with
      | zero => rw [Nat.add_zero]; exact Bool.not_eq_true _ |>.mp hp
      | succ m =>
        have := ih (k + 1) (by omega) h m (by omega)
        rw [show k + 1 + m = k + (m + 1) from by omega] at this
        exact this
theorem sz_none {f : Nat → Int32} {P : Nat → Bool} (h : ∀ a : Nat, P a = false) : ∀ k : Nat, sz f P k = 0 := by
  intro k
  induction k with
  | zero => exact itN_zero _ _
  | succ k ih => rw [sz_suc, if_neg (by rw [h k]; decide), ih]
theorem psb_NC {n : Nat} (hn : 3 ≤ n ∧ n ≤ 6) {op : Nat → Nat → Bool} {inf out : Nat → Int32} (h1 : BD n inf) (h2 : BD n out) (h : psb n op inf out = true) : NC n op inf out 0 := by
  intro s hs _
  have hp := pow6 hn
  have h3 : crd n op inf out = -1 := by
    unfold psb at h
    rw [Bool.and_eq_true] at h
    exact of_decide_eq_true h.2
  cases s with
  | zero => rw [sz_none (fun a => Nat.zero_testBit a), sz_none (fun a => ldk_zero op a n)]; exact Int.le_refl _
  | succ s =>
    have h4 := crdF_m1 (2 ^ n - 1) 1 (by omega) h3 s (by omega)
    have e := exc_Z (op := op) hn.2 h1 h2 (1 + s) n (Nat.le_refl _)
    have h5 : ¬ 0 < exc n op inf out (1 + s) n := of_decide_eq_false h4
    rw [Int32.lt_iff_toInt_lt, e, show (0 : Int32).toInt = 0 from by decide] at h5
    rw [show s + 1 = 1 + s from by omega]
    omega
theorem tab_eq {n : Nat} (hn : 3 ≤ n ∧ n ≤ 6) {op : Nat → Nat → Bool} {inf out : Nat → Int32} (h1 : BD n inf) (h2 : BD n out) (h : psb n op inf out = true) (pt pt' : Nat → Nat → Int32) {a b : Nat} (ha : a < n) (hb : b < n) : (tbO n op inf (psb n op inf out) n (pt, out)).1 a b = (ltO n op n (pt', inf, out)).1 a b := by
  rw [h]
  exact (TRo_all hn.2 h1 (sX := (pt, out)) (sM := (pt', inf, out)) ⟨fun a b _ _ h => by omega, fun a _ _ => rfl, fun b _ => rfl, h2, psb_NC hn h1 h2 h⟩ n (Nat.le_refl _)).1 a b ha hb ha
theorem tbI_no (n : Nat) (op : Nat → Nat → Bool) (inf : Nat → Int32) (i : Nat) (s : TB) : ∀ k a b : Nat, (tbI n op inf false i k s).1 a b = if a = i ∧ b < k then -1 else s.1 a b := by
  intro k
  induction k with
  | zero => intro a b; rw [if_neg (by omega)]; exact congrFun (congrFun (congrArg Prod.fst (itN_zero _ _)) a) b
  | succ k ih =>
    intro a b
    have e : tbI n op inf false i (k + 1) s = (upd2 (tbI n op inf false i k s).1 i k (-1), (tbI n op inf false i k s).2.1, (tbI n op inf false i k s).2.2) := (itN_succ _ _ _).trans (if_neg (by decide))
    rw [e]
    show upd2 (tbI n op inf false i k s).1 i k (-1) a b = _
    unfold upd2
    by_cases hq : a = i ∧ b = k
    · rw [if_pos hq, if_pos (by omega)]
    · rw [if_neg hq, ih]
      by_cases h2 : a = i ∧ b < k
      · rw [if_pos h2, if_pos (by omega)]
      · rw [if_neg h2, if_neg (by omega)]
theorem tbO_no (n : Nat) (op : Nat → Nat → Bool) (inf : Nat → Int32) (s : (Nat → Nat → Int32) × (Nat → Int32)) {b : Nat} (hb : b < n) : ∀ k a : Nat, a < k → (tbO n op inf false k s).1 a b = -1 := by
  intro k
  induction k with
  | zero => intro a h; omega
  | succ k ih =>
    intro a ha
    have e1 : tbO n op inf false (k + 1) s = ((tbI n op inf false k n ((tbO n op inf false k s).1, (tbO n op inf false k s).2, inf k)).1, (tbI n op inf false k n ((tbO n op inf false k s).1, (tbO n op inf false k s).2, inf k)).2.1) := itN_succ _ _ _
    rw [e1]
    show (tbI n op inf false k n ((tbO n op inf false k s).1, (tbO n op inf false k s).2, inf k)).1 a b = -1
    rw [tbI_no]
    by_cases h : a = k
    · rw [if_pos ⟨h, hb⟩]
    · rw [if_neg (fun q => h q.1)]
      exact ih a (by omega)
theorem tab_all {n : Nat} (hn : 3 ≤ n ∧ n ≤ 6) {op : Nat → Nat → Bool} {inf out : Nat → Int32} (h1 : BD n inf) (h2 : BD n out) (pt pt' : Nat → Nat → Int32) {a b : Nat} (ha : a < n) (hb : b < n) : (tbO n op inf (psb n op inf out) n (pt, out)).1 a b = if psb n op inf out = true then (ltO n op n (pt', inf, out)).1 a b else -1 := by
  by_cases h : psb n op inf out = true
  · rw [if_pos h]; exact tab_eq hn h1 h2 h pt pt' ha hb
  · rw [if_neg h, Bool.not_eq_true _ |>.mp h]
    exact tbO_no n op inf _ hb n a ha
