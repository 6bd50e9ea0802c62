abbrev rX0_turn : Room := { frames := 0, cells := 0, slots := 0, locals := 0 }
theorem hdX0_turn : yX0_turn.cls ≠ "java/lang/invoke/MethodHandle" ∧ yX0_turn.cls ≠ "java/lang/invoke/VarHandle" ∧ (parseMethodDescriptor yX0_turn.desc).map (fun d => d.parameters.length) = some 2 := by decide +kernel
set_option maxHeartbeats 4000000 in
set_option maxRecDepth 100000 in
theorem c_X0_turn {l : Launch} {i k : Nat} : Met l yX0_turn wsX0_turn rX0_turn (va_Pc [.int (nI i), .int (nI k)] (fun _ => True)) (vp_Si (fun r => r = nI (6 * i + k))) 0 0 (fun _ => False) := by
  refine met_intro (cc := cX0_turn) (maxL := 2) (ret := (some .int)) (own := RX0) (by decide) rfl rfl (Nat.le_of_ble_eq_true rfl) ?_
  intro pp ee ss mm args below meth cd Q ls hQ S hr hlocks hv hB hl
  obtain ⟨hx, hb, hml, hown, hts⟩ := id S
  have hl : lv_has ls 2 [(0, .int (nI i)), (1, .int (nI k))] := hl
  refine lv_iload_n hx hb dX0_turn_0 rfl (lv_at hl 0 rfl) ?_
  refine lv_bipush (v := nI 6) hx hb dX0_turn_1 (by decide) ?_
  refine w_imulR (N := 6) hx hb rfl dX0_turn_3 ?_
  refine lv_iload_n hx hb dX0_turn_4 rfl (lv_at hl 1 rfl) ?_
  refine w_iadd hx hb dX0_turn_5 ?_
  subst hQ
  exact W.iret hx hb hr (fun t ht hWm => ⟨_, rfl, rfl, ht⟩) (fun q h => absurd h List.not_mem_nil) dX0_turn_6
abbrev rX0_contains : Room := { frames := 0, cells := 0, slots := 0, locals := 0 }
theorem hdX0_contains : yX0_contains.cls ≠ "java/lang/invoke/MethodHandle" ∧ yX0_contains.cls ≠ "java/lang/invoke/VarHandle" ∧ (parseMethodDescriptor yX0_contains.desc).map (fun d => d.parameters.length) = some 2 := by decide +kernel
set_option maxHeartbeats 4000000 in
set_option maxRecDepth 100000 in
theorem c_X0_contains {l : Launch} {s a : Nat} (hs : s < 2 ^ 31) (ha : a < 31) : Met l yX0_contains wsX0_contains rX0_contains (va_Pc [.int (nI s), .int (nI a)] (fun _ => True)) (vp_Si (fun r => r = bI (s.testBit a))) 0 0 (fun _ => False) := by
  refine met_intro (cc := cX0_contains) (maxL := 2) (ret := (some .boolean)) (own := RX0) (by decide) rfl rfl (Nat.le_of_ble_eq_true rfl) ?_
  intro pp ee ss mm args below meth cd Q ls hQ S hr hlocks hv hB hl
  obtain ⟨hx, hb, hml, hown, hts⟩ := id S
  have hl : lv_has ls 2 [(0, .int (nI s)), (1, .int (nI a))] := hl
  refine lv_iload_n hx hb dX0_contains_0 rfl (lv_at hl 0 rfl) ?_
  refine lv_iconst (v := nI 1) hx hb dX0_contains_1 (by decide) ?_
  refine lv_iload_n hx hb dX0_contains_2 rfl (lv_at hl 1 rfl) ?_
  refine lv_ishl hx hb dX0_contains_3 ?_
  rw [nI_shl ha]
  refine lv_iand hx hb dX0_contains_4 ?_
  refine lv_if_eq (tgt := 12) hx hb dX0_contains_5 (by decide) (fun h5_0 => ?_) (fun h5_0 => ?_)
  · refine lv_iconst (v := nI 0) hx hb dX0_contains_12 (by decide) ?_
    subst hQ
    exact W.zret hx hb hr (by decide) (fun t ht hWm => ⟨_, rfl, (by rw [(nI_bit hs ha).mp h5_0]; rfl), ht⟩) (fun q h => absurd h List.not_mem_nil) dX0_contains_13
  · refine lv_iconst (v := nI 1) hx hb dX0_contains_8 (by decide) ?_
    refine lv_goto (tgt := 13) hx hb dX0_contains_9 (by decide) ?_
    subst hQ
    exact W.zret hx hb hr (by decide) (fun t ht hWm => ⟨_, rfl, (by rw [show s.testBit a = true from by cases hh : s.testBit a; exact absurd ((nI_bit hs ha).mpr hh) h5_0; rfl]; rfl), ht⟩) (fun q h => absurd h List.not_mem_nil) dX0_contains_13
abbrev rX0_rowSum : Room := { frames := 1, cells := 0, slots := 0, locals := 21 }
theorem hdX0_rowSum : yX0_rowSum.cls = RX0 ∧ yX0_rowSum.cls ≠ "java/lang/invoke/MethodHandle" ∧ yX0_rowSum.cls ≠ "java/lang/invoke/VarHandle" ∧ (parseMethodDescriptor yX0_rowSum.desc).map (fun d => d.parameters.length) = some 1 := by decide +kernel
set_option maxHeartbeats 4000000 in
set_option maxRecDepth 100000 in
theorem c_X0_rowSum {l : Launch} {D : va_G} {q : Nat → Nat} {cI cD : ClassId} {rC : Int32} {fi fo fw : Nat → Int32} {fe : Nat → UInt64} {ft fr fp fl : Nat → Int32} {ff : Nat → UInt64} {n : Nat} (hn : 3 ≤ n ∧ n ≤ 6) {e : Nat → Nat → UInt64} (hE : ag2 n fe e) {i : Nat} (hi : i < n) (ho : okR e n i) : Met l yX0_rowSum wsX0_rowSum rX0_rowSum (va_Pc [.ref (q 0), .int (nI i)] (wPre D (tys2 cI cD) (cW q cI cD (nI n) rC fi fo fw fe ft fr fp fl ff))) (vp_Sd (fun r => r = rowS e n i)) 0 0 (fun _ => False) := by
  refine met_intro (cc := cX0_rowSum) (maxL := 5) (ret := (some .double)) (own := RX0) (by decide) rfl rfl (Nat.le_of_ble_eq_true rfl) ?_
  intro pp ee ss mm args below meth cd Q ls hQ S hr hlocks hv hB hl
  obtain ⟨hx, hb, hml, hown, hts⟩ := id S
  obtain ⟨hP, hK⟩ := hB
  have in_w : ∀ w ∈ wsX00, w ∈ wsX0_rowSum := by decide +kernel
  have fl_19 : Cond.fieldLink RX0 19 RX0 (TX0 3).2.1 (TX0 3).2.2.1 ∈ wsX0_rowSum := by decide +kernel
  have fl_46 : Cond.fieldLink RX0 46 RX0 (TX0 9).2.1 (TX0 9).2.2.1 ∈ wsX0_rowSum := by decide +kernel
  have hl : lv_has ls 5 [(0, .ref (q 0)), (1, .int (nI i))] := hl
  refine lv_dconst0 hx hb dX0_rowSum_0 ?_
  refine lv_dstore_n (lv' := [(2, .double FP.dconst0), (0, .ref (q 0)), (1, .int (nI i))]) hx hb dX0_rowSum_1 rfl hl (by decide) rfl (fun ls hl => ?_)
  refine lv_iconst (v := nI 0) hx hb dX0_rowSum_2 (by decide) ?_
  refine lv_istore (lv' := [(4, .int (nI 0)), (2, .double FP.dconst0), (0, .ref (q 0)), (1, .int (nI i))]) hx hb dX0_rowSum_3 hl (by decide) rfl (fun ls hl => ?_)
  have lp5 : ∀ (j k : Nat), k + j = n → ∀ ls : Array Slot, lv_has ls 5 [(0, .ref (q 0)), (1, .int (nI i)), (2, .double (rowS e k i)), (4, .int (nI k))] → W pp l ee rX0_rowSum ss mm args below meth cd ss.heap [] 0 0 Q (F0 mm 5 ls []) := by
    intro j
    induction j with
    | zero =>
      intro k hk_k ls hl
      have hke_k : n = k := by omega
      subst hke_k
      refine lv_iload hx hb dX0_rowSum_5 (lv_at hl 3 rfl) ?_
      refine lv_aload_n hx hb dX0_rowSum_7 rfl (lv_at hl 0 rfl) ?_
      refine w_getC (own := RX0) (v := .int (nI n)) S in_w hK hP rfl 9 (by decide) fl_46 rfl rfl dX0_rowSum_8 ?_
      refine lv_icmp_ge (tgt := 34) hx hb dX0_rowSum_11 (by decide) (fun h11_0 => ?_) (fun h11_0 => absurd (Int32.le_refl _) h11_0)
      refine lv_dload_n hx hb dX0_rowSum_34 rfl (lv_at hl 2 rfl) ?_
      subst hQ
      exact W.dret hx hb hr (fun t ht hWm => ⟨_, rfl, rfl, ht⟩) (fun q h => absurd h List.not_mem_nil) dX0_rowSum_35
    | succ j ih =>
      intro k hk_k ls hl
      have hlt_k : k < n := by omega
      refine lv_iload hx hb dX0_rowSum_5 (lv_at hl 3 rfl) ?_
      refine lv_aload_n hx hb dX0_rowSum_7 rfl (lv_at hl 0 rfl) ?_
      refine w_getC (own := RX0) (v := .int (nI n)) S in_w hK hP rfl 9 (by decide) fl_46 rfl rfl dX0_rowSum_8 ?_
      refine lv_icmp_ge (tgt := 34) hx hb dX0_rowSum_11 (by decide) (fun h11_0 => absurd h11_0 (nI_ge hlt_k (by omega))) (fun h11_0 => ?_)
      refine lv_dload_n hx hb dX0_rowSum_14 rfl (lv_at hl 2 rfl) ?_
      refine lv_aload_n hx hb dX0_rowSum_15 rfl (lv_at hl 0 rfl) ?_
      refine w_getC (own := RX0) (v := .ref (q 4)) S in_w hK hP rfl 3 (by decide) fl_19 rfl rfl dX0_rowSum_16 ?_
      refine lv_iload_n hx hb dX0_rowSum_19 rfl (lv_at hl 1 rfl) ?_
      refine lv_iload hx hb dX0_rowSum_20 (lv_at hl 3 rfl) ?_
      refine vp_callSi (W.runS (As := [.int (nI i), .int (nI k)]) (rest := [.ref (q 4), .double (rowS e k i)]) S (c_X0_turn (i := i) (k := k)) (va_cwS 2 hts gX0_rowSum_X0_turn rfl rfl rfl hdX0_turn ⟨Nat.le_of_ble_eq_true rfl, Nat.le_of_ble_eq_true rfl⟩) preS rfl rfl hl.1 rfl (lv_room (Nat.le_of_ble_eq_true rfl)) dX0_rowSum_22 ⟨Nat.zero_le _, Nat.zero_le _⟩) (fun r_1 er_1 => ?_)
      subst er_1
      refine w_dald hx hb hK hP 4 1 rfl rfl (j := 6 * i + k) (v := e i k) (hE i k (by omega) (by omega)) (by omega) (by decide) dX0_rowSum_25 ?_
      refine lv_dadd hx hb dX0_rowSum_26 (ho k (by omega)) ?_
      refine lv_dstore_n (lv' := [(2, .double (FP.dadd (rowS e k i) (e i k))), (0, .ref (q 0)), (1, .int (nI i)), (4, .int (nI k))]) hx hb dX0_rowSum_27 rfl hl (by decide) rfl (fun ls hl => ?_)
      refine lv_iinc (v := nI (k + 1)) (lv' := [(4, .int (nI (k + 1))), (2, .double (FP.dadd (rowS e k i) (e i k))), (0, .ref (q 0)), (1, .int (nI i))]) hx hb dX0_rowSum_28 hl (k := 3) rfl (by rw [show Int32.ofInt 1 = nI 1 from by decide, nI_add]) (by decide) rfl (fun ls hl => ?_)
      refine lv_goto (tgt := 5) hx hb dX0_rowSum_31 (by decide) ?_
      have eq_2 : rowS e (k + 1) i = FP.dadd (rowS e k i) (e i k) := by rfl
      have hl : lv_has ls 5 [(4, .int (nI (k + 1))), (2, .double (rowS e (k + 1) i)), (0, .ref (q 0)), (1, .int (nI i))] := by first | exact hl | (rw [eq_2]; exact hl)
      exact ih (k + 1) (by omega) ls (lv_sub hl [2, 3, 1, 0] rfl)
  exact lp5 (n - 0) 0 (by omega) ls (lv_sub hl [2, 3, 1, 0] rfl)
abbrev rX0_columnSum : Room := { frames := 1, cells := 0, slots := 0, locals := 21 }
theorem hdX0_columnSum : yX0_columnSum.cls = RX0 ∧ yX0_columnSum.cls ≠ "java/lang/invoke/MethodHandle" ∧ yX0_columnSum.cls ≠ "java/lang/invoke/VarHandle" ∧ (parseMethodDescriptor yX0_columnSum.desc).map (fun d => d.parameters.length) = some 1 := by decide +kernel
set_option maxHeartbeats 4000000 in
set_option maxRecDepth 100000 in
theorem c_X0_columnSum {l : Launch} {D : va_G} {q : Nat → Nat} {cI cD : ClassId} {rC : Int32} {fi fo fw : Nat → Int32} {fe : Nat → UInt64} {ft fr fp fl : Nat → Int32} {ff : Nat → UInt64} {n : Nat} (hn : 3 ≤ n ∧ n ≤ 6) {e : Nat → Nat → UInt64} (hE : ag2 n fe e) {i : Nat} (hi : i < n) (ho : okC e n i) : Met l yX0_columnSum wsX0_columnSum rX0_columnSum (va_Pc [.ref (q 0), .int (nI i)] (wPre D (tys2 cI cD) (cW q cI cD (nI n) rC fi fo fw fe ft fr fp fl ff))) (vp_Sd (fun r => r = colS e n i)) 0 0 (fun _ => False) := by
  refine met_intro (cc := cX0_columnSum) (maxL := 5) (ret := (some .double)) (own := RX0) (by decide) rfl rfl (Nat.le_of_ble_eq_true rfl) ?_
  intro pp ee ss mm args below meth cd Q ls hQ S hr hlocks hv hB hl
  obtain ⟨hx, hb, hml, hown, hts⟩ := id S
  obtain ⟨hP, hK⟩ := hB
  have in_w : ∀ w ∈ wsX00, w ∈ wsX0_columnSum := by decide +kernel
  have fl_19 : Cond.fieldLink RX0 19 RX0 (TX0 3).2.1 (TX0 3).2.2.1 ∈ wsX0_columnSum := by decide +kernel
  have fl_46 : Cond.fieldLink RX0 46 RX0 (TX0 9).2.1 (TX0 9).2.2.1 ∈ wsX0_columnSum := by decide +kernel
  have hl : lv_has ls 5 [(0, .ref (q 0)), (1, .int (nI i))] := hl
  refine lv_dconst0 hx hb dX0_columnSum_0 ?_
  refine lv_dstore_n (lv' := [(2, .double FP.dconst0), (0, .ref (q 0)), (1, .int (nI i))]) hx hb dX0_columnSum_1 rfl hl (by decide) rfl (fun ls hl => ?_)
  refine lv_iconst (v := nI 0) hx hb dX0_columnSum_2 (by decide) ?_
  refine lv_istore (lv' := [(4, .int (nI 0)), (2, .double FP.dconst0), (0, .ref (q 0)), (1, .int (nI i))]) hx hb dX0_columnSum_3 hl (by decide) rfl (fun ls hl => ?_)
  have lp5 : ∀ (j k : Nat), k + j = n → ∀ ls : Array Slot, lv_has ls 5 [(0, .ref (q 0)), (1, .int (nI i)), (2, .double (colS e k i)), (4, .int (nI k))] → W pp l ee rX0_columnSum ss mm args below meth cd ss.heap [] 0 0 Q (F0 mm 5 ls []) := by
    intro j
    induction j with
    | zero =>
      intro k hk_k ls hl
      have hke_k : n = k := by omega
      subst hke_k
      refine lv_iload hx hb dX0_columnSum_5 (lv_at hl 3 rfl) ?_
      refine lv_aload_n hx hb dX0_columnSum_7 rfl (lv_at hl 0 rfl) ?_
      refine w_getC (own := RX0) (v := .int (nI n)) S in_w hK hP rfl 9 (by decide) fl_46 rfl rfl dX0_columnSum_8 ?_
      refine lv_icmp_ge (tgt := 34) hx hb dX0_columnSum_11 (by decide) (fun h11_0 => ?_) (fun h11_0 => absurd (Int32.le_refl _) h11_0)
      refine lv_dload_n hx hb dX0_columnSum_34 rfl (lv_at hl 2 rfl) ?_
      subst hQ
      exact W.dret hx hb hr (fun t ht hWm => ⟨_, rfl, rfl, ht⟩) (fun q h => absurd h List.not_mem_nil) dX0_columnSum_35
    | succ j ih =>
      intro k hk_k ls hl
      have hlt_k : k < n := by omega
      refine lv_iload hx hb dX0_columnSum_5 (lv_at hl 3 rfl) ?_
      refine lv_aload_n hx hb dX0_columnSum_7 rfl (lv_at hl 0 rfl) ?_
      refine w_getC (own := RX0) (v := .int (nI n)) S in_w hK hP rfl 9 (by decide) fl_46 rfl rfl dX0_columnSum_8 ?_
      refine lv_icmp_ge (tgt := 34) hx hb dX0_columnSum_11 (by decide) (fun h11_0 => absurd h11_0 (nI_ge hlt_k (by omega))) (fun h11_0 => ?_)
      refine lv_dload_n hx hb dX0_columnSum_14 rfl (lv_at hl 2 rfl) ?_
      refine lv_aload_n hx hb dX0_columnSum_15 rfl (lv_at hl 0 rfl) ?_
      refine w_getC (own := RX0) (v := .ref (q 4)) S in_w hK hP rfl 3 (by decide) fl_19 rfl rfl dX0_columnSum_16 ?_
      refine lv_iload hx hb dX0_columnSum_19 (lv_at hl 3 rfl) ?_
      refine lv_iload_n hx hb dX0_columnSum_21 rfl (lv_at hl 1 rfl) ?_
      refine vp_callSi (W.runS (As := [.int (nI k), .int (nI i)]) (rest := [.ref (q 4), .double (colS e k i)]) S (c_X0_turn (i := k) (k := i)) (va_cwS 2 hts gX0_columnSum_X0_turn rfl rfl rfl hdX0_turn ⟨Nat.le_of_ble_eq_true rfl, Nat.le_of_ble_eq_true rfl⟩) preS rfl rfl hl.1 rfl (lv_room (Nat.le_of_ble_eq_true rfl)) dX0_columnSum_22 ⟨Nat.zero_le _, Nat.zero_le _⟩) (fun r_1 er_1 => ?_)
      subst er_1
      refine w_dald hx hb hK hP 4 1 rfl rfl (j := 6 * k + i) (v := e k i) (hE k i (by omega) (by omega)) (by omega) (by decide) dX0_columnSum_25 ?_
      refine lv_dadd hx hb dX0_columnSum_26 (ho k (by omega)) ?_
      refine lv_dstore_n (lv' := [(2, .double (FP.dadd (colS e k i) (e k i))), (0, .ref (q 0)), (1, .int (nI i)), (4, .int (nI k))]) hx hb dX0_columnSum_27 rfl hl (by decide) rfl (fun ls hl => ?_)
      refine lv_iinc (v := nI (k + 1)) (lv' := [(4, .int (nI (k + 1))), (2, .double (FP.dadd (colS e k i) (e k i))), (0, .ref (q 0)), (1, .int (nI i))]) hx hb dX0_columnSum_28 hl (k := 3) rfl (by rw [show Int32.ofInt 1 = nI 1 from by decide, nI_add]) (by decide) rfl (fun ls hl => ?_)
      refine lv_goto (tgt := 5) hx hb dX0_columnSum_31 (by decide) ?_
      have eq_2 : colS e (k + 1) i = FP.dadd (colS e k i) (e k i) := by rfl
      have hl : lv_has ls 5 [(4, .int (nI (k + 1))), (2, .double (colS e (k + 1) i)), (0, .ref (q 0)), (1, .int (nI i))] := by first | exact hl | (rw [eq_2]; exact hl)
      exact ih (k + 1) (by omega) ls (lv_sub hl [2, 3, 1, 0] rfl)
  exact lp5 (n - 0) 0 (by omega) ls (lv_sub hl [2, 3, 1, 0] rfl)
abbrev rX0_distance : Room := { frames := 0, cells := 0, slots := 0, locals := 0 }
theorem hdX0_distance : yX0_distance.cls ≠ "java/lang/invoke/MethodHandle" ∧ yX0_distance.cls ≠ "java/lang/invoke/VarHandle" ∧ (parseMethodDescriptor yX0_distance.desc).map (fun d => d.parameters.length) = some 2 := by decide +kernel
set_option maxHeartbeats 4000000 in
set_option maxRecDepth 100000 in
theorem c_X0_distance {l : Launch} {x y : UInt64} (ho : vf_n64 (FP.dsub x y)) : Met l yX0_distance wsX0_distance rX0_distance (va_Pc [.double x, .double y] (fun _ => True)) (vp_Sd (fun r => r = dist x y)) 0 0 (fun _ => False) := by
  refine met_intro (cc := cX0_distance) (maxL := 6) (ret := (some .double)) (own := RX0) (by decide) rfl rfl (Nat.le_of_ble_eq_true rfl) ?_
  intro pp ee ss mm args below meth cd Q ls hQ S hr hlocks hv hB hl
  obtain ⟨hx, hb, hml, hown, hts⟩ := id S
  have hl : lv_has ls 6 [(0, .double x), (2, .double y)] := hl
  refine lv_dload_n hx hb dX0_distance_0 rfl (lv_at hl 0 rfl) ?_
  refine lv_dload_n hx hb dX0_distance_1 rfl (lv_at hl 1 rfl) ?_
  refine lv_dsub hx hb dX0_distance_2 ho ?_
  refine lv_dstore (lv' := [(4, .double (FP.dsub x y)), (0, .double x), (2, .double y)]) hx hb dX0_distance_3 hl (by decide) rfl (fun ls hl => ?_)
  refine lv_dload hx hb dX0_distance_5 (lv_at hl 0 rfl) ?_
  refine lv_dconst0 hx hb dX0_distance_7 ?_
  refine w_dlt (tgt := 18) hx hb dX0_distance_8 dX0_distance_9 (by decide) (fun h8_0 => ?_) (fun h8_0 => ?_)
  · refine lv_dload hx hb dX0_distance_18 (lv_at hl 0 rfl) ?_
    subst hQ
    exact W.dret hx hb hr (fun t ht hWm => ⟨_, rfl, (by unfold dist; rw [h8_0]; rfl), ht⟩) (fun q h => absurd h List.not_mem_nil) dX0_distance_20
  · refine lv_dload hx hb dX0_distance_12 (lv_at hl 0 rfl) ?_
    refine lv_dneg hx hb dX0_distance_14 ?_
    refine lv_goto (tgt := 20) hx hb dX0_distance_15 (by decide) ?_
    subst hQ
    exact W.dret hx hb hr (fun t ht hWm => ⟨_, rfl, (by unfold dist; rw [h8_0]; rfl), ht⟩) (fun q h => absurd h List.not_mem_nil) dX0_distance_20
abbrev rX0_scaled : Room := { frames := 0, cells := 0, slots := 0, locals := 0 }
theorem hdX0_scaled : yX0_scaled.cls ≠ "java/lang/invoke/MethodHandle" ∧ yX0_scaled.cls ≠ "java/lang/invoke/VarHandle" ∧ (parseMethodDescriptor yX0_scaled.desc).map (fun d => d.parameters.length) = some 2 := by decide +kernel
set_option maxHeartbeats 4000000 in
set_option maxRecDepth 100000 in
theorem c_X0_scaled {l : Launch} {a b : Int32} : Met l yX0_scaled wsX0_scaled rX0_scaled (va_Pc [.int a, .int b] (fun _ => True)) (vp_Si (fun r => r = scl a b)) 0 0 (fun _ => False) := by
  refine met_intro (cc := cX0_scaled) (maxL := 2) (ret := (some .int)) (own := RX0) (by decide) rfl rfl (Nat.le_of_ble_eq_true rfl) ?_
  intro pp ee ss mm args below meth cd Q ls hQ S hr hlocks hv hB hl
  obtain ⟨hx, hb, hml, hown, hts⟩ := id S
  have hl : lv_has ls 2 [(0, .int a), (1, .int b)] := hl
  refine lv_iload_n hx hb dX0_scaled_0 rfl (lv_at hl 0 rfl) ?_
  refine lv_iload_n hx hb dX0_scaled_1 rfl (lv_at hl 1 rfl) ?_
  refine lv_imul hx hb dX0_scaled_2 ?_
  refine lv_bipush (v := nI 50) hx hb dX0_scaled_3 (by decide) ?_
  refine lv_iadd hx hb dX0_scaled_5 ?_
  refine lv_bipush (v := nI 100) hx hb dX0_scaled_6 (by decide) ?_
  refine lv_idiv hx hb dX0_scaled_8 (by decide) ?_
  subst hQ
  exact W.iret hx hb hr (fun t ht hWm => ⟨_, rfl, rfl, ht⟩) (fun q h => absurd h List.not_mem_nil) dX0_scaled_9
abbrev rX0_mixed : Room := { frames := 0, cells := 0, slots := 0, locals := 0 }
theorem hdX0_mixed : yX0_mixed.cls ≠ "java/lang/invoke/MethodHandle" ∧ yX0_mixed.cls ≠ "java/lang/invoke/VarHandle" ∧ (parseMethodDescriptor yX0_mixed.desc).map (fun d => d.parameters.length) = some 2 := by decide +kernel
set_option maxHeartbeats 4000000 in
set_option maxRecDepth 100000 in
theorem c_X0_mixed {l : Launch} {a b : Int64} : Met l yX0_mixed wsX0_mixed rX0_mixed (va_Pc [.long a, .long b] (fun _ => True)) (vp_Sl (fun r => r = 31 * a + b)) 0 0 (fun _ => False) := by
  refine met_intro (cc := cX0_mixed) (maxL := 4) (ret := (some .long)) (own := RX0) (by decide) rfl rfl (Nat.le_of_ble_eq_true rfl) ?_
  intro pp ee ss mm args below meth cd Q ls hQ S hr hlocks hv hB hl
  obtain ⟨hx, hb, hml, hown, hts⟩ := id S
  have hl : lv_has ls 4 [(0, .long a), (2, .long b)] := hl
  refine lv_ldc2 (v := 31) hx hb hown (hts (.constantLong RX0 214 31) (by decide +kernel)) dX0_mixed_0 ?_
  refine lv_lload_n hx hb dX0_mixed_3 rfl (lv_at hl 0 rfl) ?_
  refine lv_lmul hx hb dX0_mixed_4 ?_
  refine lv_lload_n hx hb dX0_mixed_5 rfl (lv_at hl 1 rfl) ?_
  refine lv_ladd hx hb dX0_mixed_6 ?_
  subst hQ
  exact W.lret hx hb hr (fun t ht hWm => ⟨_, rfl, rfl, ht⟩) (fun q h => absurd h List.not_mem_nil) dX0_mixed_7
abbrev rX0_thousandthsOf : Room := { frames := 0, cells := 0, slots := 0, locals := 0 }
theorem hdX0_thousandthsOf : yX0_thousandthsOf.cls ≠ "java/lang/invoke/MethodHandle" ∧ yX0_thousandthsOf.cls ≠ "java/lang/invoke/VarHandle" ∧ (parseMethodDescriptor yX0_thousandthsOf.desc).map (fun d => d.parameters.length) = some 1 := by decide +kernel
set_option maxHeartbeats 4000000 in
set_option maxRecDepth 100000 in
theorem c_X0_thousandthsOf {l : Launch} {x : UInt64} (ho : vf_n64 (FP.dmul x 4652007308841189376)) : Met l yX0_thousandthsOf wsX0_thousandthsOf rX0_thousandthsOf (va_Pc [.double x] (fun _ => True)) (vp_Sl (fun r => r = FP.d2l (FP.dmul x 4652007308841189376))) 0 0 (fun _ => False) := by
  refine met_intro (cc := cX0_thousandthsOf) (maxL := 2) (ret := (some .long)) (own := RX0) (by decide) rfl rfl (Nat.le_of_ble_eq_true rfl) ?_
  intro pp ee ss mm args below meth cd Q ls hQ S hr hlocks hv hB hl
  obtain ⟨hx, hb, hml, hown, hts⟩ := id S
  have hl : lv_has ls 2 [(0, .double x)] := hl
  refine lv_dload_n hx hb dX0_thousandthsOf_0 rfl (lv_at hl 0 rfl) ?_
  refine lv_ldc2d (v := 4652007308841189376) hx hb hown (hts (.constantDouble RX0 99 4652007308841189376) (by decide +kernel)) dX0_thousandthsOf_1 ?_
  refine lv_dmul hx hb dX0_thousandthsOf_4 ho ?_
  refine lv_d2l hx hb dX0_thousandthsOf_5 ?_
  subst hQ
  exact W.lret hx hb hr (fun t ht hWm => ⟨_, rfl, rfl, ht⟩) (fun q h => absurd h List.not_mem_nil) dX0_thousandthsOf_6
