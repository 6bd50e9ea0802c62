/-! the two roundings of a row answer alike -/
abbrev m1 : UInt64 := 13830554455654793216
def NN (x : UInt64) : Prop := dge x FP.dconst0 = true ∧ dgt x m1 = true ∧ dgt m1 x = false
theorem nI_ne_m1 {k : Nat} (h : k < 2 ^ 31) : ¬ nI k = -1 := by
  intro e
  have h1 := congrArg Int32.toInt e
  rw [nI_toInt h, show (-1 : Int32).toInt = -1 from by decide] at h1
  omega
theorem m1_ge : dge m1 FP.dconst0 = false := by decide +kernel
theorem m1_gt : dgt m1 m1 = false := by decide +kernel
theorem grf_suc (op : Nat → Nat → Bool) (fs : Nat → UInt64) (i k : Nat) : grf op fs i (k + 1) = if op i k = true then (if dgt (fs k) (grf op fs i k).2 = true then (nI k, fs k) else grf op fs i k) else grf op fs i k := rfl
theorem grf_nxt {op : Nat → Nat → Bool} {fs : Nat → UInt64} {i n : Nat} (hn : n ≤ 6) (hF : ∀ j : Nat, j < n → fs j = m1 ∨ NN (fs j)) : ∀ k : Nat, k ≤ n → (grf op fs i k).1 = nxt op fs i k ∧ ((nxt op fs i k = -1 ∧ (grf op fs i k).2 = m1) ∨ ∃ j : Nat, j < k ∧ nxt op fs i k = nI j ∧ (grf op fs i k).2 = fs j ∧ NN (fs j)) := by
  intro k
  induction k with
  | zero => exact fun _ => ⟨rfl, Or.inl ⟨rfl, rfl⟩⟩
  | succ k ih =>
    intro hk
    obtain ⟨h1, h2⟩ := ih (by omega)
    have h2' : (nxt op fs i k = -1 ∧ (grf op fs i k).2 = m1) ∨ ∃ j : Nat, j < k + 1 ∧ nxt op fs i k = nI j ∧ (grf op fs i k).2 = fs j ∧ NN (fs j) := h2.imp id (fun ⟨j, a, b⟩ => ⟨j, by omega, b⟩)
    rw [grf_suc]
    cases ho : op i k with
    | false => rw [nxt_a ho, if_neg (by decide)]; exact ⟨h1, h2'⟩
    | true =>
      rw [if_pos rfl]
      rcases hF k (by omega) with hm | hm
      · have hd : dgt (fs k) (grf op fs i k).2 = false := by
          rcases h2 with ⟨-, g⟩ | ⟨j, -, -, g, hj⟩
          · rw [g, hm]; exact m1_gt
          · rw [g, hm]; exact hj.2.2
        rw [nxt_b ho (by rw [hm]; exact m1_ge), if_neg (by rw [hd]; decide)]
        exact ⟨h1, h2'⟩
      · rcases h2 with ⟨g1, g⟩ | ⟨j, hj, g1, g, hj2⟩
        · rw [nxt_c ho hm.1 g1, if_pos (by rw [g]; exact hm.2.1)]
          exact ⟨rfl, Or.inr ⟨k, by omega, rfl, rfl, hm⟩⟩
        · have g2 : ¬ nxt op fs i k = -1 := by rw [g1]; exact nI_ne_m1 (by omega)
          cases hd : dgt (fs k) (fs j) with
          | true =>
            rw [nxt_d ho hm.1 g2 g1 (by omega) hd, if_pos (by rw [g]; exact hd)]
            exact ⟨rfl, Or.inr ⟨k, by omega, rfl, rfl, hm⟩⟩
          | false =>
            rw [nxt_e ho hm.1 g2 g1 (by omega) hd, if_neg (by rw [g, hd]; decide)]
            exact ⟨by rw [h1, g1], Or.inr ⟨j, by omega, rfl, g, hj2⟩⟩
theorem grf_congr {op : Nat → Nat → Bool} {fs gs : Nat → UInt64} {i n : Nat} (h : ∀ j : Nat, j < n → fs j = gs j) : ∀ k : Nat, k ≤ n → grf op fs i k = grf op gs i k := by
  intro k
  induction k with
  | zero => exact fun _ => rfl
  | succ k ih => intro hk; rw [grf_suc, grf_suc, ih (by omega), h k (by omega)]
def SR (i n : Nat) (s t : RT) : Prop := (∀ j : Nat, j < n → s.1 i j = t.1 i j) ∧ ∀ j : Nat, j < n → s.2 j = t.2 j
def cn1 (fs : Nat → UInt64) (k : Nat) : Nat := itN (fun j c => if fs j = m1 then c else c + 1) k 0
theorem cn1_le (fs : Nat → UInt64) : ∀ k : Nat, cn1 fs k ≤ k := by
  intro k
  induction k with
  | zero => exact Nat.le_refl _
  | succ k ih =>
    show (if fs k = m1 then cn1 fs k else cn1 fs k + 1) ≤ k + 1
    split <;> omega
theorem cn1_upd {fs : Nat → UInt64} {j : Nat} (h : fs j ≠ m1) : ∀ k : Nat, (k ≤ j → cn1 (vf_upd fs j m1) k = cn1 fs k) ∧ (j < k → cn1 (vf_upd fs j m1) k + 1 = cn1 fs k) := by
  intro k
  induction k with
  | zero => exact ⟨fun _ => rfl, fun h => by omega⟩
  | succ k ih =>
    have e1 : cn1 (vf_upd fs j m1) (k + 1) = if vf_upd fs j m1 k = m1 then cn1 (vf_upd fs j m1) k else cn1 (vf_upd fs j m1) k + 1 := rfl
    have e2 : cn1 fs (k + 1) = if fs k = m1 then cn1 fs k else cn1 fs k + 1 := rfl
    rw [e1, e2]
    by_cases hk : k = j
    · subst hk
      rw [show vf_upd fs k m1 k = m1 from by unfold vf_upd; rw [if_pos rfl], if_pos rfl, if_neg h, ih.1 (by omega)]
      exact ⟨fun h => by omega, fun _ => rfl⟩
    · rw [show vf_upd fs j m1 k = fs k from by unfold vf_upd; rw [if_neg hk]]
      refine ⟨fun h => ?_, fun h => ?_⟩
      · rw [ih.1 (by omega)]
      · have := ih.2 (by omega)
        split
        · exact this
        · omega
theorem m1_NN {x : UInt64} (h : NN x) : x ≠ m1 := fun e => by
  have := h.1
  rw [e, m1_ge] at this; cases this
theorem F_upd {fs : Nat → UInt64} {n j : Nat} (hF : ∀ j : Nat, j < n → fs j = m1 ∨ NN (fs j)) : ∀ a : Nat, a < n → vf_upd fs j m1 a = m1 ∨ NN (vf_upd fs j m1 a) := by
  intro a ha
  unfold vf_upd
  by_cases h : a = j
  · rw [if_pos h]; exact Or.inl rfl
  · rw [if_neg h]; exact hF a ha
theorem rsF_sat {op : Nat → Nat → Bool} {i n : Nat} (hn : n ≤ 6) : ∀ (c m : Nat) (rt : Nat → Nat → Int32) (fs : Nat → UInt64), (∀ j : Nat, j < n → fs j = m1 ∨ NN (fs j)) → cn1 fs n ≤ c → c ≤ m → rsF op i n m (rt, fs) = rsF op i n c (rt, fs) := by
  intro c
  induction c with
  | zero =>
    intro m rt fs hF hc _
    cases m with
    | zero => rfl
    | succ m =>
      have h1 := grf_nxt (op := op) (i := i) hn hF n (Nat.le_refl _)
      rcases h1 with ⟨h2, ⟨h3, -⟩ | ⟨j, hj, -, -, h4⟩⟩
      · rw [rsF_stop (by rw [h2, h3])]; rfl
      · have := (cn1_upd (m1_NN h4) n).2 hj
        omega
  | succ c ih =>
    intro m rt fs hF hc hm
    obtain ⟨m, rfl⟩ : ∃ k, m = k + 1 := ⟨m - 1, by omega⟩
    by_cases hs : (grf op fs i n).1 = -1
    · rw [rsF_stop hs, rsF_stop hs]
    · rcases grf_nxt (op := op) (i := i) hn hF n (Nat.le_refl _) with ⟨h2, ⟨h3, -⟩ | ⟨j, hj, h3, -, h4⟩⟩
      · exact absurd (by rw [h2, h3]) hs
      · rw [rsF_step hs (by rw [h2, h3]) (by omega), rsF_step hs (by rw [h2, h3]) (by omega)]
        refine ih m _ _ (F_upd hF) ?_ (by omega)
        have h5 : cn1 (vf_upd fs j 13830554455654793216) n + 1 = cn1 fs n := (cn1_upd (m1_NN h4) n).2 hj
        omega
theorem rsFM {op : Nat → Nat → Bool} {i n : Nat} (hn : n ≤ 6) : ∀ (m : Nat) (s t : RT), SR i n s t → (∀ j : Nat, j < n → s.2 j = m1 ∨ NN (s.2 j)) → SR i n (rsF op i n m s) (rsM op i n m t) := by
  intro m
  induction m with
  | zero => intro s t h _; exact h
  | succ m ih =>
    intro s t h hF
    obtain ⟨rt, fs⟩ := s
    obtain ⟨rt', fs'⟩ := t
    have hF' : ∀ j : Nat, j < n → fs' j = m1 ∨ NN (fs' j) := fun j hj => by rw [← (show fs j = fs' j from h.2 j hj)]; exact hF j hj
    obtain ⟨a1, a2⟩ := grf_nxt (op := op) (i := i) hn hF' n (Nat.le_refl _)
    have a0 : grf op fs i n = grf op fs' i n := grf_congr h.2 n (Nat.le_refl _)
    rcases a2 with ⟨a3, -⟩ | ⟨j, hj, a3, -, -⟩
    · rw [rsF_stop (by rw [a0, a1, a3]), rsM_stop a3]; exact h
    · have hne : ¬ nI j = -1 := nI_ne_m1 (by omega)
      rw [rsF_step (by rw [a0, a1, a3]; exact hne) (by rw [a0, a1, a3]) (by omega), rsM_step (by rw [a3]; exact hne) a3 (by omega)]
      refine ih _ _ ⟨fun b hb => ?_, fun b hb => ?_⟩ (F_upd hF)
      · show upd2 rt i j (rt i j + nI 1) i b = upd2 rt' i j (rt' i j + nI 1) i b
        have e1 : rt i j = rt' i j := h.1 j hj
        have e2 : rt i b = rt' i b := h.1 b hb
        unfold upd2
        rw [e1, e2]
      · show vf_upd fs j m1 b = vf_upd fs' j m1 b
        have e2 : fs b = fs' b := h.2 b hb
        unfold vf_upd
        rw [e2]
