theorem armB2_t {n i k : Nat} (hn : 3 ≤ n ∧ n ≤ 6) (hi : i < n) (hk : k < n) : (armB n (nI i) && armB n (nI k)) = true := by
  rw [armB_t hn hi, armB_t hn hk]; rfl
abbrev rX1_rowSum : Room := { frames := 0, cells := 0, slots := 0, locals := 0 }
theorem hdX1_rowSum : yX1_rowSum.cls = RX1 ∧ yX1_rowSum.cls ≠ "java/lang/invoke/MethodHandle" ∧ yX1_rowSum.cls ≠ "java/lang/invoke/VarHandle" ∧ (parseMethodDescriptor yX1_rowSum.desc).map (fun d => d.parameters.length) = some 1 := by decide +kernel
set_option maxHeartbeats 4000000 in
set_option maxRecDepth 100000 in
theorem c_X1_rowSum {l : Launch} {D : va_G} {q : Nat → Nat} {cI cD : ClassId} {th rC : Int32} {hh : Int64} {fi fo fw : Nat → Int32} {fe : Nat → UInt64} {fr : Nat → Int32} {ff : Nat → UInt64} {fp fl fc : Nat → Int32} {n : Nat} (hn : 3 ≤ n ∧ n ≤ 6) {e : Nat → Nat → UInt64} (hE : ag2 n fe e) {i : Nat} (hi : i < n) (ho : okR e n i) : Met l yX1_rowSum wsX1_rowSum rX1_rowSum (va_Pc [.ref (q 0), .int (nI i)] (wPre D (tys2 cI cD) (mW q cI cD th (nI n) rC hh fi fo fw fe fr ff fp fl fc))) (vp_Sd (fun r => r = rowS e n i)) 0 0 (fun _ => False) := by
  refine met_intro (cc := cX1_rowSum) (maxL := 5) (ret := (some .double)) (own := RX1) (by decide) rfl rfl (Nat.le_of_ble_eq_true rfl) ?_
  intro pp ee ss mm args below meth cd Q ls hQ S hr hlocks hv hB hl
  obtain ⟨hx, hb, hml, hown, hts⟩ := id S
  obtain ⟨hP, hK⟩ := hB
  have in_w : ∀ w ∈ wsX10, w ∈ wsX1_rowSum := by decide +kernel
  have fl_7 : Cond.fieldLink RX1 7 RX1 (TX1 1).2.1 (TX1 1).2.2.1 ∈ wsX1_rowSum := by decide +kernel
  have fl_23 : Cond.fieldLink RX1 23 RX1 (TX1 5).2.1 (TX1 5).2.2.1 ∈ wsX1_rowSum := by decide +kernel
  have hl : lv_has ls 5 [(0, .ref (q 0)), (1, .int (nI i))] := hl
  refine lv_dconst0 hx hb dX1_rowSum_0 ?_
  refine lv_dstore_n (lv' := [(2, .double FP.dconst0), (0, .ref (q 0)), (1, .int (nI i))]) hx hb dX1_rowSum_1 rfl hl (by decide) rfl (fun ls hl => ?_)
  refine lv_iconst (v := nI 0) hx hb dX1_rowSum_2 (by decide) ?_
  refine lv_istore (lv' := [(4, .int (nI 0)), (2, .double FP.dconst0), (0, .ref (q 0)), (1, .int (nI i))]) hx hb dX1_rowSum_3 hl (by decide) rfl (fun ls hl => ?_)
  have lp5 : ∀ (j k : Nat), k + j = n → ∀ ls : Array Slot, lv_has ls 5 [(0, .ref (q 0)), (1, .int (nI i)), (2, .double (rowS e k i)), (4, .int (nI k))] → W pp l ee rX1_rowSum ss mm args below meth cd ss.heap [] 0 0 Q (F0 mm 5 ls []) := by
    intro j
    induction j with
    | zero =>
      intro k hk_k ls hl
      have hke_k : n = k := by omega
      subst hke_k
      refine lv_iload hx hb dX1_rowSum_5 (lv_at hl 3 rfl) ?_
      refine lv_aload_n hx hb dX1_rowSum_7 rfl (lv_at hl 0 rfl) ?_
      refine w_getM (own := RX1) (v := .int (nI n)) S in_w hK hP rfl 1 (by decide) fl_7 rfl rfl dX1_rowSum_8 ?_
      refine lv_icmp_ge (tgt := 35) hx hb dX1_rowSum_11 (by decide) (fun h11_0 => ?_) (fun h11_0 => absurd (Int32.le_refl _) h11_0)
      refine lv_dload_n hx hb dX1_rowSum_35 rfl (lv_at hl 2 rfl) ?_
      subst hQ
      exact W.dret hx hb hr (fun t ht hWm => ⟨_, rfl, rfl, ht⟩) (fun q h => absurd h List.not_mem_nil) dX1_rowSum_36
    | succ j ih =>
      intro k hk_k ls hl
      have hlt_k : k < n := by omega
      refine lv_iload hx hb dX1_rowSum_5 (lv_at hl 3 rfl) ?_
      refine lv_aload_n hx hb dX1_rowSum_7 rfl (lv_at hl 0 rfl) ?_
      refine w_getM (own := RX1) (v := .int (nI n)) S in_w hK hP rfl 1 (by decide) fl_7 rfl rfl dX1_rowSum_8 ?_
      refine lv_icmp_ge (tgt := 35) hx hb dX1_rowSum_11 (by decide) (fun h11_0 => absurd h11_0 (nI_ge hlt_k (by omega))) (fun h11_0 => ?_)
      refine lv_dload_n hx hb dX1_rowSum_14 rfl (lv_at hl 2 rfl) ?_
      refine lv_aload_n hx hb dX1_rowSum_15 rfl (lv_at hl 0 rfl) ?_
      refine w_getM (own := RX1) (v := .ref (q 4)) S in_w hK hP rfl 5 (by decide) fl_23 rfl rfl dX1_rowSum_16 ?_
      refine lv_bipush (v := nI 6) hx hb dX1_rowSum_19 (by decide) ?_
      refine lv_iload_n hx hb dX1_rowSum_21 rfl (lv_at hl 1 rfl) ?_
      refine w_imulL (N := 6) (y := 0) hx hb rfl dX1_rowSum_22 ?_
      refine lv_iload hx hb dX1_rowSum_23 (lv_at hl 3 rfl) ?_
      refine w_iadd hx hb dX1_rowSum_25 ?_
      refine w_dald hx hb hK hP 4 1 rfl rfl (j := 6 * i + k) (v := e i k) (hE i k (by omega) (by omega)) (by omega) (by decide) dX1_rowSum_26 ?_
      refine lv_dadd hx hb dX1_rowSum_27 (ho k (by omega)) ?_
      refine lv_dstore_n (lv' := [(2, .double (FP.dadd (rowS e k i) (e i k))), (0, .ref (q 0)), (1, .int (nI i)), (4, .int (nI k))]) hx hb dX1_rowSum_28 rfl hl (by decide) rfl (fun ls hl => ?_)
      refine lv_iinc (v := nI (k + 1)) (lv' := [(4, .int (nI (k + 1))), (2, .double (FP.dadd (rowS e k i) (e i k))), (0, .ref (q 0)), (1, .int (nI i))]) hx hb dX1_rowSum_29 hl (k := 3) rfl (by rw [show Int32.ofInt 1 = nI 1 from by decide, nI_add]) (by decide) rfl (fun ls hl => ?_)
      refine lv_goto (tgt := 5) hx hb dX1_rowSum_32 (by decide) ?_
      have eq_1 : rowS e (k + 1) i = FP.dadd (rowS e k i) (e i k) := by rfl
      have hl : lv_has ls 5 [(4, .int (nI (k + 1))), (2, .double (rowS e (k + 1) i)), (0, .ref (q 0)), (1, .int (nI i))] := by first | exact hl | (rw [eq_1]; exact hl)
      exact ih (k + 1) (by omega) ls (lv_sub hl [2, 3, 1, 0] rfl)
  exact lp5 (n - 0) 0 (by omega) ls (lv_sub hl [2, 3, 1, 0] rfl)
abbrev rX1_columnSum : Room := { frames := 0, cells := 0, slots := 0, locals := 0 }
theorem hdX1_columnSum : yX1_columnSum.cls = RX1 ∧ yX1_columnSum.cls ≠ "java/lang/invoke/MethodHandle" ∧ yX1_columnSum.cls ≠ "java/lang/invoke/VarHandle" ∧ (parseMethodDescriptor yX1_columnSum.desc).map (fun d => d.parameters.length) = some 1 := by decide +kernel
set_option maxHeartbeats 4000000 in
set_option maxRecDepth 100000 in
theorem c_X1_columnSum {l : Launch} {D : va_G} {q : Nat → Nat} {cI cD : ClassId} {th rC : Int32} {hh : Int64} {fi fo fw : Nat → Int32} {fe : Nat → UInt64} {fr : Nat → Int32} {ff : Nat → UInt64} {fp fl fc : Nat → Int32} {n : Nat} (hn : 3 ≤ n ∧ n ≤ 6) {e : Nat → Nat → UInt64} (hE : ag2 n fe e) {i : Nat} (hi : i < n) (ho : okC e n i) : Met l yX1_columnSum wsX1_columnSum rX1_columnSum (va_Pc [.ref (q 0), .int (nI i)] (wPre D (tys2 cI cD) (mW q cI cD th (nI n) rC hh fi fo fw fe fr ff fp fl fc))) (vp_Sd (fun r => r = colS e n i)) 0 0 (fun _ => False) := by
  refine met_intro (cc := cX1_columnSum) (maxL := 5) (ret := (some .double)) (own := RX1) (by decide) rfl rfl (Nat.le_of_ble_eq_true rfl) ?_
  intro pp ee ss mm args below meth cd Q ls hQ S hr hlocks hv hB hl
  obtain ⟨hx, hb, hml, hown, hts⟩ := id S
  obtain ⟨hP, hK⟩ := hB
  have in_w : ∀ w ∈ wsX10, w ∈ wsX1_columnSum := by decide +kernel
  have fl_7 : Cond.fieldLink RX1 7 RX1 (TX1 1).2.1 (TX1 1).2.2.1 ∈ wsX1_columnSum := by decide +kernel
  have fl_23 : Cond.fieldLink RX1 23 RX1 (TX1 5).2.1 (TX1 5).2.2.1 ∈ wsX1_columnSum := by decide +kernel
  have hl : lv_has ls 5 [(0, .ref (q 0)), (1, .int (nI i))] := hl
  refine lv_dconst0 hx hb dX1_columnSum_0 ?_
  refine lv_dstore_n (lv' := [(2, .double FP.dconst0), (0, .ref (q 0)), (1, .int (nI i))]) hx hb dX1_columnSum_1 rfl hl (by decide) rfl (fun ls hl => ?_)
  refine lv_iconst (v := nI 0) hx hb dX1_columnSum_2 (by decide) ?_
  refine lv_istore (lv' := [(4, .int (nI 0)), (2, .double FP.dconst0), (0, .ref (q 0)), (1, .int (nI i))]) hx hb dX1_columnSum_3 hl (by decide) rfl (fun ls hl => ?_)
  have lp5 : ∀ (j k : Nat), k + j = n → ∀ ls : Array Slot, lv_has ls 5 [(0, .ref (q 0)), (1, .int (nI i)), (2, .double (colS e k i)), (4, .int (nI k))] → W pp l ee rX1_columnSum ss mm args below meth cd ss.heap [] 0 0 Q (F0 mm 5 ls []) := by
    intro j
    induction j with
    | zero =>
      intro k hk_k ls hl
      have hke_k : n = k := by omega
      subst hke_k
      refine lv_iload hx hb dX1_columnSum_5 (lv_at hl 3 rfl) ?_
      refine lv_aload_n hx hb dX1_columnSum_7 rfl (lv_at hl 0 rfl) ?_
      refine w_getM (own := RX1) (v := .int (nI n)) S in_w hK hP rfl 1 (by decide) fl_7 rfl rfl dX1_columnSum_8 ?_
      refine lv_icmp_ge (tgt := 35) hx hb dX1_columnSum_11 (by decide) (fun h11_0 => ?_) (fun h11_0 => absurd (Int32.le_refl _) h11_0)
      refine lv_dload_n hx hb dX1_columnSum_35 rfl (lv_at hl 2 rfl) ?_
      subst hQ
      exact W.dret hx hb hr (fun t ht hWm => ⟨_, rfl, rfl, ht⟩) (fun q h => absurd h List.not_mem_nil) dX1_columnSum_36
    | succ j ih =>
      intro k hk_k ls hl
      have hlt_k : k < n := by omega
      refine lv_iload hx hb dX1_columnSum_5 (lv_at hl 3 rfl) ?_
      refine lv_aload_n hx hb dX1_columnSum_7 rfl (lv_at hl 0 rfl) ?_
      refine w_getM (own := RX1) (v := .int (nI n)) S in_w hK hP rfl 1 (by decide) fl_7 rfl rfl dX1_columnSum_8 ?_
      refine lv_icmp_ge (tgt := 35) hx hb dX1_columnSum_11 (by decide) (fun h11_0 => absurd h11_0 (nI_ge hlt_k (by omega))) (fun h11_0 => ?_)
      refine lv_dload_n hx hb dX1_columnSum_14 rfl (lv_at hl 2 rfl) ?_
      refine lv_aload_n hx hb dX1_columnSum_15 rfl (lv_at hl 0 rfl) ?_
      refine w_getM (own := RX1) (v := .ref (q 4)) S in_w hK hP rfl 5 (by decide) fl_23 rfl rfl dX1_columnSum_16 ?_
      refine lv_bipush (v := nI 6) hx hb dX1_columnSum_19 (by decide) ?_
      refine lv_iload hx hb dX1_columnSum_21 (lv_at hl 3 rfl) ?_
      refine w_imulL (N := 6) (y := 0) hx hb rfl dX1_columnSum_23 ?_
      refine lv_iload_n hx hb dX1_columnSum_24 rfl (lv_at hl 1 rfl) ?_
      refine w_iadd hx hb dX1_columnSum_25 ?_
      refine w_dald hx hb hK hP 4 1 rfl rfl (j := 6 * k + i) (v := e k i) (hE k i (by omega) (by omega)) (by omega) (by decide) dX1_columnSum_26 ?_
      refine lv_dadd hx hb dX1_columnSum_27 (ho k (by omega)) ?_
      refine lv_dstore_n (lv' := [(2, .double (FP.dadd (colS e k i) (e k i))), (0, .ref (q 0)), (1, .int (nI i)), (4, .int (nI k))]) hx hb dX1_columnSum_28 rfl hl (by decide) rfl (fun ls hl => ?_)
      refine lv_iinc (v := nI (k + 1)) (lv' := [(4, .int (nI (k + 1))), (2, .double (FP.dadd (colS e k i) (e k i))), (0, .ref (q 0)), (1, .int (nI i))]) hx hb dX1_columnSum_29 hl (k := 3) rfl (by rw [show Int32.ofInt 1 = nI 1 from by decide, nI_add]) (by decide) rfl (fun ls hl => ?_)
      refine lv_goto (tgt := 5) hx hb dX1_columnSum_32 (by decide) ?_
      have eq_1 : colS e (k + 1) i = FP.dadd (colS e k i) (e k i) := by rfl
      have hl : lv_has ls 5 [(4, .int (nI (k + 1))), (2, .double (colS e (k + 1) i)), (0, .ref (q 0)), (1, .int (nI i))] := by first | exact hl | (rw [eq_1]; exact hl)
      exact ih (k + 1) (by omega) ls (lv_sub hl [2, 3, 1, 0] rfl)
  exact lp5 (n - 0) 0 (by omega) ls (lv_sub hl [2, 3, 1, 0] rfl)
abbrev rX1_rowStep : Room := { frames := 1, cells := 0, slots := 0, locals := 24 }
theorem hdX1_rowStep : yX1_rowStep.cls = RX1 ∧ yX1_rowStep.cls ≠ "java/lang/invoke/MethodHandle" ∧ yX1_rowStep.cls ≠ "java/lang/invoke/VarHandle" ∧ (parseMethodDescriptor yX1_rowStep.desc).map (fun d => d.parameters.length) = some 1 := by decide +kernel
set_option maxHeartbeats 4000000 in
set_option maxRecDepth 100000 in
theorem c_X1_rowStep {l : Launch} {D : va_G} {q : Nat → Nat} {cI cD : ClassId} {th rC : Int32} {hh : Int64} {fi fo fw : Nat → Int32} {fe : Nat → UInt64} {fr : Nat → Int32} {ff : Nat → UInt64} {fp fl fc : Nat → Int32} {n : Nat} (hn : 3 ≤ n ∧ n ≤ 6) {inf : Nat → Int32} (hI : ag1 n fi inf) {e : Nat → Nat → UInt64} (hE : ag2 n fe e) {i : Nat} (hi : i < n) (ho : okRS n inf e i) (hq : qD q) : Met l yX1_rowStep wsX1_rowStep rX1_rowStep (va_Pc [.ref (q 0), .int (nI i)] (wPre D (tys2 cI cD) (mW q cI cD th (nI n) rC hh fi fo fw fe fr ff fp fl fc))) (va_Qv (fun (u : Nat → UInt64) => ag2 n u (rowSt n inf e i)) (fun u t => va_P D cls2 (mW q cI cD th (nI n) rC hh fi fo fw u fr ff fp fl fc) t.heap) (qA q)) 0 0 (qA q) := by
  refine met_intro (cc := cX1_rowStep) (maxL := 7) (ret := none) (own := RX1) (by decide) rfl rfl (Nat.le_of_ble_eq_true rfl) ?_
  intro pp ee ss mm args below meth cd Q ls hQ S hr hlocks hv hB hl
  obtain ⟨hx, hb, hml, hown, hts⟩ := id S
  obtain ⟨hP, hK⟩ := hB
  have in_w : ∀ w ∈ wsX10, w ∈ wsX1_rowStep := by decide +kernel
  have fl_7 : Cond.fieldLink RX1 7 RX1 (TX1 1).2.1 (TX1 1).2.2.1 ∈ wsX1_rowStep := by decide +kernel
  have fl_13 : Cond.fieldLink RX1 13 RX1 (TX1 2).2.1 (TX1 2).2.2.1 ∈ wsX1_rowStep := by decide +kernel
  have fl_23 : Cond.fieldLink RX1 23 RX1 (TX1 5).2.1 (TX1 5).2.2.1 ∈ wsX1_rowStep := by decide +kernel
  have hS : va_S (qA q) ss.heap ss.heap [] := va_S.rf
  generalize hHg : ss.heap = H at hP
  have hS : va_S (qA q) ss.heap H [] := by rw [← hHg]; exact hS
  suffices hgo : ∀ locs : List Loc, va_S (qA q) ss.heap H locs → W pp l ee rX1_rowStep ss mm args below meth cd H locs 0 0 Q (F0 mm 0 ls []) by
    first | exact hgo [] hS | (rw [hHg]; exact hgo [] hS)
  clear hS
  intro locs hS
  have hl : lv_has ls 7 [(0, .ref (q 0)), (1, .int (nI i))] := hl
  refine lv_aload_n hx hb dX1_rowStep_0 rfl (lv_at hl 0 rfl) ?_
  refine lv_iload_n hx hb dX1_rowStep_1 rfl (lv_at hl 1 rfl) ?_
  refine vp_callSd (W.runV (As := [.int (nI i)]) (rest := []) S (c_X1_rowSum hn hE (i := i) (by omega) ho.1) (cwV 1 hts gX1_rowStep_X1_rowSum rfl rfl rfl hdX1_rowSum ⟨Nat.le_of_ble_eq_true rfl, Nat.le_of_ble_eq_true rfl⟩) (preV hK hP rfl rfl) rfl rfl hl.1 rfl (lv_room (Nat.le_of_ble_eq_true rfl)) dX1_rowStep_2 ⟨Nat.zero_le _, Nat.zero_le _⟩) (fun r_1 er_1 => ?_)
  subst er_1
  refine lv_dstore_n (lv' := [(2, .double (rowS e n i)), (0, .ref (q 0)), (1, .int (nI i))]) hx hb dX1_rowStep_5 rfl hl (by decide) rfl (fun ls hl => ?_)
  refine lv_dload_n hx hb dX1_rowStep_6 rfl (lv_at hl 0 rfl) ?_
  refine lv_dconst0 hx hb dX1_rowStep_7 ?_
  refine w_dgt (tgt := 58) hx hb dX1_rowStep_8 dX1_rowStep_9 (by decide) (fun h8_0 => ?_) (fun h8_0 => ?_)
  · subst hQ
    exact W.vret hx hb hr (fun t ht hWm => ⟨⟨fe, rfl, (by unfold rowSt; rw [if_neg (by rw [h8_0]; decide)]; exact hE), (show va_P D cls2 _ t.heap from by rw [ht]; exact hP)⟩, hS.F ht⟩) hS.2.2 dX1_rowStep_58
  · refine lv_aload_n hx hb dX1_rowStep_12 rfl (lv_at hl 1 rfl) ?_
    refine w_getM (own := RX1) (v := .ref (q 1)) S in_w hK hP rfl 2 (by decide) fl_13 rfl rfl dX1_rowStep_13 ?_
    refine lv_iload_n hx hb dX1_rowStep_16 rfl (lv_at hl 2 rfl) ?_
    refine w_iald hx hb hK hP 1 0 rfl rfl (j := i) (v := inf i) (hI i (by omega)) (by omega) (by decide) dX1_rowStep_17 ?_
    refine lv_i2d hx hb dX1_rowStep_18 ?_
    refine lv_dload_n hx hb dX1_rowStep_19 rfl (lv_at hl 0 rfl) ?_
    refine lv_ddiv hx hb dX1_rowStep_20 (ho.2 h8_0).1 ?_
    refine lv_dstore (lv' := [(4, .double (FP.ddiv (FP.i2d (inf i)) (rowS e n i))), (2, .double (rowS e n i)), (0, .ref (q 0)), (1, .int (nI i))]) hx hb dX1_rowStep_21 hl (by decide) rfl (fun ls hl => ?_)
    refine lv_iconst (v := nI 0) hx hb dX1_rowStep_23 (by decide) ?_
    refine lv_istore (lv' := [(6, .int (nI 0)), (4, .double (FP.ddiv (FP.i2d (inf i)) (rowS e n i))), (2, .double (rowS e n i)), (0, .ref (q 0)), (1, .int (nI i))]) hx hb dX1_rowStep_24 hl (by decide) rfl (fun ls hl => ?_)
    have lp26 : ∀ (j k : Nat), k + j = n → ∀ (fe : Nat → UInt64), ∀ (H : Heap) (locs : List Loc), ag2 n fe (rowM (rowF n inf e i) i k e) → va_P D cls2 (mW q cI cD th (nI n) rC hh fi fo fw fe fr ff fp fl fc) H → va_S (qA q) ss.heap H locs → ∀ ls : Array Slot, lv_has ls 7 [(0, .ref (q 0)), (1, .int (nI i)), (2, .double (rowS e n i)), (4, .double (FP.ddiv (FP.i2d (inf i)) (rowS e n i))), (6, .int (nI k))] → W pp l ee rX1_rowStep ss mm args below meth cd H locs 0 0 Q (F0 mm 26 ls []) := by
      intro j
      induction j with
      | zero =>
        intro k hk_k fe H locs hg_fe hP hS ls hl
        have hke_k : n = k := by omega
        subst hke_k
        refine lv_iload hx hb dX1_rowStep_26 (lv_at hl 4 rfl) ?_
        refine lv_aload_n hx hb dX1_rowStep_28 rfl (lv_at hl 0 rfl) ?_
        refine w_getM (own := RX1) (v := .int (nI n)) S in_w hK hP rfl 1 (by decide) fl_7 rfl rfl dX1_rowStep_29 ?_
        refine lv_icmp_ge (tgt := 58) hx hb dX1_rowStep_32 (by decide) (fun h32_1 => ?_) (fun h32_1 => absurd (Int32.le_refl _) h32_1)
        subst hQ
        exact W.vret hx hb hr (fun t ht hWm => ⟨⟨fe, rfl, (by unfold rowSt; rw [if_pos h8_0]; exact hg_fe), (show va_P D cls2 _ t.heap from by rw [ht]; exact hP)⟩, hS.F ht⟩) hS.2.2 dX1_rowStep_58
      | succ j ih =>
        intro k hk_k fe H locs hg_fe hP hS ls hl
        have hlt_k : k < n := by omega
        refine lv_iload hx hb dX1_rowStep_26 (lv_at hl 4 rfl) ?_
        refine lv_aload_n hx hb dX1_rowStep_28 rfl (lv_at hl 0 rfl) ?_
        refine w_getM (own := RX1) (v := .int (nI n)) S in_w hK hP rfl 1 (by decide) fl_7 rfl rfl dX1_rowStep_29 ?_
        refine lv_icmp_ge (tgt := 58) hx hb dX1_rowStep_32 (by decide) (fun h32_1 => absurd h32_1 (nI_ge hlt_k (by omega))) (fun h32_1 => ?_)
        refine lv_aload_n hx hb dX1_rowStep_35 rfl (lv_at hl 0 rfl) ?_
        refine w_getM (own := RX1) (v := .ref (q 4)) S in_w hK hP rfl 5 (by decide) fl_23 rfl rfl dX1_rowStep_36 ?_
        refine lv_bipush (v := nI 6) hx hb dX1_rowStep_39 (by decide) ?_
        refine lv_iload_n hx hb dX1_rowStep_41 rfl (lv_at hl 1 rfl) ?_
        refine w_imulL (N := 6) (y := 0) hx hb rfl dX1_rowStep_42 ?_
        refine lv_iload hx hb dX1_rowStep_43 (lv_at hl 4 rfl) ?_
        refine w_iadd hx hb dX1_rowStep_45 ?_
        refine lv_dup2_11 hx hb dX1_rowStep_46 rfl rfl ?_
        refine w_dald hx hb hK hP 4 1 rfl rfl (j := 6 * i + k) (v := (rowM (rowF n inf e i) i k e) i k) (hg_fe i k (by omega) (by omega)) (by omega) (by decide) dX1_rowStep_47 ?_
        refine lv_dload hx hb dX1_rowStep_48 (lv_at hl 3 rfl) ?_
        refine lv_dmul hx hb dX1_rowStep_50 ((ho.2 h8_0).2 k (by omega)) ?_
        refine w_dast hx hb hK hP (wD_of hq rfl) hS 4 1 rfl rfl (j := 6 * i + k) (x := FP.dmul ((rowM (rowF n inf e i) i k e) i k) (FP.ddiv (FP.i2d (inf i)) (rowS e n i))) (by omega) (by decide) dX1_rowStep_51 (fun H locs hP _ hS => ?_)
        have hP : va_P D cls2 (mW q cI cD th (nI n) rC hh fi fo fw (vf_upd fe (6 * i + k) (FP.dmul ((rowM (rowF n inf e i) i k e) i k) (FP.ddiv (FP.i2d (inf i)) (rowS e n i)))) fr ff fp fl fc) H := hP
        have g_3 : ag2 n (vf_upd fe (6 * i + k) (FP.dmul ((rowM (rowF n inf e i) i k e) i k) (FP.ddiv (FP.i2d (inf i)) (rowS e n i)))) (upd2 (rowM (rowF n inf e i) i k e) i k (FP.dmul ((rowM (rowF n inf e i) i k e) i k) (FP.ddiv (FP.i2d (inf i)) (rowS e n i)))) := (ag2_updD hg_fe hn.2 (i := i) (j := k) (by omega) (FP.dmul ((rowM (rowF n inf e i) i k e) i k) (FP.ddiv (FP.i2d (inf i)) (rowS e n i))))
        generalize (vf_upd fe (6 * i + k) (FP.dmul ((rowM (rowF n inf e i) i k e) i k) (FP.ddiv (FP.i2d (inf i)) (rowS e n i)))) = a_2 at hP g_3
        refine lv_iinc (v := nI (k + 1)) (lv' := [(6, .int (nI (k + 1))), (0, .ref (q 0)), (1, .int (nI i)), (2, .double (rowS e n i)), (4, .double (FP.ddiv (FP.i2d (inf i)) (rowS e n i)))]) hx hb dX1_rowStep_52 hl (k := 4) rfl (by rw [show Int32.ofInt 1 = nI 1 from by decide, nI_add]) (by decide) rfl (fun ls hl => ?_)
        refine lv_goto (tgt := 26) hx hb dX1_rowStep_55 (by decide) ?_
        have eq_4 : rowM (rowF n inf e i) i (k + 1) e = upd2 (rowM (rowF n inf e i) i k e) i k (FP.dmul ((rowM (rowF n inf e i) i k e) i k) (FP.ddiv (FP.i2d (inf i)) (rowS e n i))) := by rfl
        exact ih (k + 1) (by omega) _ _ _ (by rw [eq_4]; exact g_3) hP hS ls (lv_sub hl [1, 2, 3, 4, 0] rfl)
    exact lp26 (n - 0) 0 (by omega) _ _ _ hE hP hS ls (lv_sub hl [3, 4, 2, 1, 0] rfl)
abbrev rX1_columnStep : Room := { frames := 1, cells := 0, slots := 0, locals := 24 }
theorem hdX1_columnStep : yX1_columnStep.cls = RX1 ∧ yX1_columnStep.cls ≠ "java/lang/invoke/MethodHandle" ∧ yX1_columnStep.cls ≠ "java/lang/invoke/VarHandle" ∧ (parseMethodDescriptor yX1_columnStep.desc).map (fun d => d.parameters.length) = some 1 := by decide +kernel
set_option maxHeartbeats 4000000 in
set_option maxRecDepth 100000 in
theorem c_X1_columnStep {l : Launch} {D : va_G} {q : Nat → Nat} {cI cD : ClassId} {th rC : Int32} {hh : Int64} {fi fo fw : Nat → Int32} {fe : Nat → UInt64} {fr : Nat → Int32} {ff : Nat → UInt64} {fp fl fc : Nat → Int32} {n : Nat} (hn : 3 ≤ n ∧ n ≤ 6) {out : Nat → Int32} (hO : ag1 n fo out) {e : Nat → Nat → UInt64} (hE : ag2 n fe e) {i : Nat} (hi : i < n) (ho : okCS n out e i) (hq : qD q) : Met l yX1_columnStep wsX1_columnStep rX1_columnStep (va_Pc [.ref (q 0), .int (nI i)] (wPre D (tys2 cI cD) (mW q cI cD th (nI n) rC hh fi fo fw fe fr ff fp fl fc))) (va_Qv (fun (u : Nat → UInt64) => ag2 n u (colSt n out e i)) (fun u t => va_P D cls2 (mW q cI cD th (nI n) rC hh fi fo fw u fr ff fp fl fc) t.heap) (qA q)) 0 0 (qA q) := by
  refine met_intro (cc := cX1_columnStep) (maxL := 7) (ret := none) (own := RX1) (by decide) rfl rfl (Nat.le_of_ble_eq_true rfl) ?_
  intro pp ee ss mm args below meth cd Q ls hQ S hr hlocks hv hB hl
  obtain ⟨hx, hb, hml, hown, hts⟩ := id S
  obtain ⟨hP, hK⟩ := hB
  have in_w : ∀ w ∈ wsX10, w ∈ wsX1_columnStep := by decide +kernel
  have fl_7 : Cond.fieldLink RX1 7 RX1 (TX1 1).2.1 (TX1 1).2.2.1 ∈ wsX1_columnStep := by decide +kernel
  have fl_17 : Cond.fieldLink RX1 17 RX1 (TX1 3).2.1 (TX1 3).2.2.1 ∈ wsX1_columnStep := by decide +kernel
  have fl_23 : Cond.fieldLink RX1 23 RX1 (TX1 5).2.1 (TX1 5).2.2.1 ∈ wsX1_columnStep := by decide +kernel
  have hS : va_S (qA q) ss.heap ss.heap [] := va_S.rf
  generalize hHg : ss.heap = H at hP
  have hS : va_S (qA q) ss.heap H [] := by rw [← hHg]; exact hS
  suffices hgo : ∀ locs : List Loc, va_S (qA q) ss.heap H locs → W pp l ee rX1_columnStep ss mm args below meth cd H locs 0 0 Q (F0 mm 0 ls []) by
    first | exact hgo [] hS | (rw [hHg]; exact hgo [] hS)
  clear hS
  intro locs hS
  have hl : lv_has ls 7 [(0, .ref (q 0)), (1, .int (nI i))] := hl
  refine lv_aload_n hx hb dX1_columnStep_0 rfl (lv_at hl 0 rfl) ?_
  refine lv_iload_n hx hb dX1_columnStep_1 rfl (lv_at hl 1 rfl) ?_
  refine vp_callSd (W.runV (As := [.int (nI i)]) (rest := []) S (c_X1_columnSum hn hE (i := i) (by omega) ho.1) (cwV 1 hts gX1_columnStep_X1_columnSum rfl rfl rfl hdX1_columnSum ⟨Nat.le_of_ble_eq_true rfl, Nat.le_of_ble_eq_true rfl⟩) (preV hK hP rfl rfl) rfl rfl hl.1 rfl (lv_room (Nat.le_of_ble_eq_true rfl)) dX1_columnStep_2 ⟨Nat.zero_le _, Nat.zero_le _⟩) (fun r_1 er_1 => ?_)
  subst er_1
  refine lv_dstore_n (lv' := [(2, .double (colS e n i)), (0, .ref (q 0)), (1, .int (nI i))]) hx hb dX1_columnStep_5 rfl hl (by decide) rfl (fun ls hl => ?_)
  refine lv_dload_n hx hb dX1_columnStep_6 rfl (lv_at hl 0 rfl) ?_
  refine lv_dconst0 hx hb dX1_columnStep_7 ?_
  refine w_dgt (tgt := 58) hx hb dX1_columnStep_8 dX1_columnStep_9 (by decide) (fun h8_0 => ?_) (fun h8_0 => ?_)
  · subst hQ
    exact W.vret hx hb hr (fun t ht hWm => ⟨⟨fe, rfl, (by unfold colSt; rw [if_neg (by rw [h8_0]; decide)]; exact hE), (show va_P D cls2 _ t.heap from by rw [ht]; exact hP)⟩, hS.F ht⟩) hS.2.2 dX1_columnStep_58
  · refine lv_aload_n hx hb dX1_columnStep_12 rfl (lv_at hl 1 rfl) ?_
    refine w_getM (own := RX1) (v := .ref (q 2)) S in_w hK hP rfl 3 (by decide) fl_17 rfl rfl dX1_columnStep_13 ?_
    refine lv_iload_n hx hb dX1_columnStep_16 rfl (lv_at hl 2 rfl) ?_
    refine w_iald hx hb hK hP 2 0 rfl rfl (j := i) (v := out i) (hO i (by omega)) (by omega) (by decide) dX1_columnStep_17 ?_
    refine lv_i2d hx hb dX1_columnStep_18 ?_
    refine lv_dload_n hx hb dX1_columnStep_19 rfl (lv_at hl 0 rfl) ?_
    refine lv_ddiv hx hb dX1_columnStep_20 (ho.2 h8_0).1 ?_
    refine lv_dstore (lv' := [(4, .double (FP.ddiv (FP.i2d (out i)) (colS e n i))), (2, .double (colS e n i)), (0, .ref (q 0)), (1, .int (nI i))]) hx hb dX1_columnStep_21 hl (by decide) rfl (fun ls hl => ?_)
    refine lv_iconst (v := nI 0) hx hb dX1_columnStep_23 (by decide) ?_
    refine lv_istore (lv' := [(6, .int (nI 0)), (4, .double (FP.ddiv (FP.i2d (out i)) (colS e n i))), (2, .double (colS e n i)), (0, .ref (q 0)), (1, .int (nI i))]) hx hb dX1_columnStep_24 hl (by decide) rfl (fun ls hl => ?_)
    have lp26 : ∀ (j k : Nat), k + j = n → ∀ (fe : Nat → UInt64), ∀ (H : Heap) (locs : List Loc), ag2 n fe (colM (colF n out e i) i k e) → va_P D cls2 (mW q cI cD th (nI n) rC hh fi fo fw fe fr ff fp fl fc) H → va_S (qA q) ss.heap H locs → ∀ ls : Array Slot, lv_has ls 7 [(0, .ref (q 0)), (1, .int (nI i)), (2, .double (colS e n i)), (4, .double (FP.ddiv (FP.i2d (out i)) (colS e n i))), (6, .int (nI k))] → W pp l ee rX1_columnStep ss mm args below meth cd H locs 0 0 Q (F0 mm 26 ls []) := by
      intro j
      induction j with
      | zero =>
        intro k hk_k fe H locs hg_fe hP hS ls hl
        have hke_k : n = k := by omega
        subst hke_k
        refine lv_iload hx hb dX1_columnStep_26 (lv_at hl 4 rfl) ?_
        refine lv_aload_n hx hb dX1_columnStep_28 rfl (lv_at hl 0 rfl) ?_
        refine w_getM (own := RX1) (v := .int (nI n)) S in_w hK hP rfl 1 (by decide) fl_7 rfl rfl dX1_columnStep_29 ?_
        refine lv_icmp_ge (tgt := 58) hx hb dX1_columnStep_32 (by decide) (fun h32_1 => ?_) (fun h32_1 => absurd (Int32.le_refl _) h32_1)
        subst hQ
        exact W.vret hx hb hr (fun t ht hWm => ⟨⟨fe, rfl, (by unfold colSt; rw [if_pos h8_0]; exact hg_fe), (show va_P D cls2 _ t.heap from by rw [ht]; exact hP)⟩, hS.F ht⟩) hS.2.2 dX1_columnStep_58
      | succ j ih =>
        intro k hk_k fe H locs hg_fe hP hS ls hl
        have hlt_k : k < n := by omega
        refine lv_iload hx hb dX1_columnStep_26 (lv_at hl 4 rfl) ?_
        refine lv_aload_n hx hb dX1_columnStep_28 rfl (lv_at hl 0 rfl) ?_
        refine w_getM (own := RX1) (v := .int (nI n)) S in_w hK hP rfl 1 (by decide) fl_7 rfl rfl dX1_columnStep_29 ?_
        refine lv_icmp_ge (tgt := 58) hx hb dX1_columnStep_32 (by decide) (fun h32_1 => absurd h32_1 (nI_ge hlt_k (by omega))) (fun h32_1 => ?_)
        refine lv_aload_n hx hb dX1_columnStep_35 rfl (lv_at hl 0 rfl) ?_
        refine w_getM (own := RX1) (v := .ref (q 4)) S in_w hK hP rfl 5 (by decide) fl_23 rfl rfl dX1_columnStep_36 ?_
        refine lv_bipush (v := nI 6) hx hb dX1_columnStep_39 (by decide) ?_
        refine lv_iload hx hb dX1_columnStep_41 (lv_at hl 4 rfl) ?_
        refine w_imulL (N := 6) (y := 0) hx hb rfl dX1_columnStep_43 ?_
        refine lv_iload_n hx hb dX1_columnStep_44 rfl (lv_at hl 1 rfl) ?_
        refine w_iadd hx hb dX1_columnStep_45 ?_
        refine lv_dup2_11 hx hb dX1_columnStep_46 rfl rfl ?_
        refine w_dald hx hb hK hP 4 1 rfl rfl (j := 6 * k + i) (v := (colM (colF n out e i) i k e) k i) (hg_fe k i (by omega) (by omega)) (by omega) (by decide) dX1_columnStep_47 ?_
        refine lv_dload hx hb dX1_columnStep_48 (lv_at hl 3 rfl) ?_
        refine lv_dmul hx hb dX1_columnStep_50 ((ho.2 h8_0).2 k (by omega)) ?_
        refine w_dast hx hb hK hP (wD_of hq rfl) hS 4 1 rfl rfl (j := 6 * k + i) (x := FP.dmul ((colM (colF n out e i) i k e) k i) (FP.ddiv (FP.i2d (out i)) (colS e n i))) (by omega) (by decide) dX1_columnStep_51 (fun H locs hP _ hS => ?_)
        have hP : va_P D cls2 (mW q cI cD th (nI n) rC hh fi fo fw (vf_upd fe (6 * k + i) (FP.dmul ((colM (colF n out e i) i k e) k i) (FP.ddiv (FP.i2d (out i)) (colS e n i)))) fr ff fp fl fc) H := hP
        have g_3 : ag2 n (vf_upd fe (6 * k + i) (FP.dmul ((colM (colF n out e i) i k e) k i) (FP.ddiv (FP.i2d (out i)) (colS e n i)))) (upd2 (colM (colF n out e i) i k e) k i (FP.dmul ((colM (colF n out e i) i k e) k i) (FP.ddiv (FP.i2d (out i)) (colS e n i)))) := (ag2_updD hg_fe hn.2 (i := k) (j := i) (by omega) (FP.dmul ((colM (colF n out e i) i k e) k i) (FP.ddiv (FP.i2d (out i)) (colS e n i))))
        generalize (vf_upd fe (6 * k + i) (FP.dmul ((colM (colF n out e i) i k e) k i) (FP.ddiv (FP.i2d (out i)) (colS e n i)))) = a_2 at hP g_3
        refine lv_iinc (v := nI (k + 1)) (lv' := [(6, .int (nI (k + 1))), (0, .ref (q 0)), (1, .int (nI i)), (2, .double (colS e n i)), (4, .double (FP.ddiv (FP.i2d (out i)) (colS e n i)))]) hx hb dX1_columnStep_52 hl (k := 4) rfl (by rw [show Int32.ofInt 1 = nI 1 from by decide, nI_add]) (by decide) rfl (fun ls hl => ?_)
        refine lv_goto (tgt := 26) hx hb dX1_columnStep_55 (by decide) ?_
        have eq_4 : colM (colF n out e i) i (k + 1) e = upd2 (colM (colF n out e i) i k e) k i (FP.dmul ((colM (colF n out e i) i k e) k i) (FP.ddiv (FP.i2d (out i)) (colS e n i))) := by rfl
        exact ih (k + 1) (by omega) _ _ _ (by rw [eq_4]; exact g_3) hP hS ls (lv_sub hl [1, 2, 3, 4, 0] rfl)
    exact lp26 (n - 0) 0 (by omega) _ _ _ hE hP hS ls (lv_sub hl [3, 4, 2, 1, 0] rfl)
abbrev rX1_oneRound : Room := { frames := 2, cells := 0, slots := 0, locals := 50 }
theorem hdX1_oneRound : yX1_oneRound.cls = RX1 ∧ yX1_oneRound.cls ≠ "java/lang/invoke/MethodHandle" ∧ yX1_oneRound.cls ≠ "java/lang/invoke/VarHandle" ∧ (parseMethodDescriptor yX1_oneRound.desc).map (fun d => d.parameters.length) = some 0 := by decide +kernel
set_option maxHeartbeats 4000000 in
set_option maxRecDepth 100000 in
theorem c_X1_oneRound {l : Launch} {D : va_G} {q : Nat → Nat} {cI cD : ClassId} {th rC : Int32} {hh : Int64} {fi fo fw : Nat → Int32} {fe : Nat → UInt64} {fr : Nat → Int32} {ff : Nat → UInt64} {fp fl fc : Nat → Int32} {n : Nat} (hn : 3 ≤ n ∧ n ≤ 6) {inf : Nat → Int32} (hI : ag1 n fi inf) {out : Nat → Int32} (hO : ag1 n fo out) {e : Nat → Nat → UInt64} (hE : ag2 n fe e) (ho : okRnd n inf out e) (hq : qD q) : Met l yX1_oneRound wsX1_oneRound rX1_oneRound (va_Pc [.ref (q 0)] (wPre D (tys2 cI cD) (mW q cI cD th (nI n) rC hh fi fo fw fe fr ff fp fl fc))) (va_Qv (fun (u : Nat → UInt64) => ag2 n u (rnd n inf out e)) (fun u t => va_P D cls2 (mW q cI cD th (nI n) (rC + nI 1) hh fi fo fw u fr ff fp fl fc) t.heap) (qA q)) 0 0 (qA q) := by
  refine met_intro (cc := cX1_oneRound) (maxL := 2) (ret := none) (own := RX1) (by decide) rfl rfl (Nat.le_of_ble_eq_true rfl) ?_
  intro pp ee ss mm args below meth cd Q ls hQ S hr hlocks hv hB hl
  obtain ⟨hx, hb, hml, hown, hts⟩ := id S
  obtain ⟨hP, hK⟩ := hB
  have in_w : ∀ w ∈ wsX10, w ∈ wsX1_oneRound := by decide +kernel
  have fl_7 : Cond.fieldLink RX1 7 RX1 (TX1 1).2.1 (TX1 1).2.2.1 ∈ wsX1_oneRound := by decide +kernel
  have fl_52 : Cond.fieldLink RX1 52 RX1 (TX1 6).2.1 (TX1 6).2.2.1 ∈ wsX1_oneRound := by decide +kernel
  have hS : va_S (qA q) ss.heap ss.heap [] := va_S.rf
  generalize hHg : ss.heap = H at hP
  have hS : va_S (qA q) ss.heap H [] := by rw [← hHg]; exact hS
  suffices hgo : ∀ locs : List Loc, va_S (qA q) ss.heap H locs → W pp l ee rX1_oneRound ss mm args below meth cd H locs 0 0 Q (F0 mm 0 ls []) by
    first | exact hgo [] hS | (rw [hHg]; exact hgo [] hS)
  clear hS
  intro locs hS
  have hl : lv_has ls 2 [(0, .ref (q 0))] := hl
  refine lv_iconst (v := nI 0) hx hb dX1_oneRound_0 (by decide) ?_
  refine lv_istore_n (lv' := [(1, .int (nI 0)), (0, .ref (q 0))]) hx hb dX1_oneRound_1 rfl hl (by decide) rfl (fun ls hl => ?_)
  have lp2 : ∀ (j i : Nat), i + j = n → ∀ (fe : Nat → UInt64), ∀ (H : Heap) (locs : List Loc), ag2 n fe (rowsK n inf e i) → va_P D cls2 (mW q cI cD th (nI n) rC hh fi fo fw fe fr ff fp fl fc) H → va_S (qA q) ss.heap H locs → ∀ ls : Array Slot, lv_has ls 2 [(0, .ref (q 0)), (1, .int (nI i))] → W pp l ee rX1_oneRound ss mm args below meth cd H locs 0 0 Q (F0 mm 2 ls []) := by
    intro j
    induction j with
    | zero =>
      intro i hk_i fe H locs hg_fe hP hS ls hl
      have hke_i : n = i := by omega
      subst hke_i
      refine lv_iload_n hx hb dX1_oneRound_2 rfl (lv_at hl 1 rfl) ?_
      refine lv_aload_n hx hb dX1_oneRound_3 rfl (lv_at hl 0 rfl) ?_
      refine w_getM (own := RX1) (v := .int (nI n)) S in_w hK hP rfl 1 (by decide) fl_7 rfl rfl dX1_oneRound_4 ?_
      refine lv_icmp_ge (tgt := 21) hx hb dX1_oneRound_7 (by decide) (fun h7_0 => ?_) (fun h7_0 => absurd (Int32.le_refl _) h7_0)
      refine lv_iconst (v := nI 0) hx hb dX1_oneRound_21 (by decide) ?_
      refine lv_istore_n (lv' := [(1, .int (nI 0)), (0, .ref (q 0))]) hx hb dX1_oneRound_22 rfl hl (by decide) rfl (fun ls hl => ?_)
      have lp23 : ∀ (j k : Nat), k + j = n → ∀ (fe : Nat → UInt64), ∀ (H : Heap) (locs : List Loc), ag2 n fe (colsK n out (rowsK n inf e n) k) → va_P D cls2 (mW q cI cD th (nI n) rC hh fi fo fw fe fr ff fp fl fc) H → va_S (qA q) ss.heap H locs → ∀ ls : Array Slot, lv_has ls 2 [(0, .ref (q 0)), (1, .int (nI k))] → W pp l ee rX1_oneRound ss mm args below meth cd H locs 0 0 Q (F0 mm 23 ls []) := by
        intro j
        induction j with
        | zero =>
          intro k hk_k fe H locs hg_fe hP hS ls hl
          have hke_k : n = k := by omega
          subst hke_k
          refine lv_iload_n hx hb dX1_oneRound_23 rfl (lv_at hl 1 rfl) ?_
          refine lv_aload_n hx hb dX1_oneRound_24 rfl (lv_at hl 0 rfl) ?_
          refine w_getM (own := RX1) (v := .int (nI n)) S in_w hK hP rfl 1 (by decide) fl_7 rfl rfl dX1_oneRound_25 ?_
          refine lv_icmp_ge (tgt := 42) hx hb dX1_oneRound_28 (by decide) (fun h28_1 => ?_) (fun h28_1 => absurd (Int32.le_refl _) h28_1)
          refine lv_aload_n hx hb dX1_oneRound_42 rfl (lv_at hl 0 rfl) ?_
          refine lv_dup hx hb dX1_oneRound_43 rfl ?_
          refine w_getM (own := RX1) (v := .int rC) S in_w hK hP rfl 6 (by decide) fl_52 rfl rfl dX1_oneRound_44 ?_
          refine lv_iconst (v := nI 1) hx hb dX1_oneRound_47 (by decide) ?_
          refine lv_iadd hx hb dX1_oneRound_48 ?_
          refine w_putM (v := .int (rC + (nI 1))) (ty := .int) S in_w hK hP (wD_of hq rfl) hS rfl 6 (by decide) fl_52 rfl (by decide +kernel) rfl rfl (Nat.le_of_ble_eq_true rfl) rfl dX1_oneRound_49 (fun H locs hP hS => ?_)
          have hP : va_P D cls2 (mW q cI cD th (nI n) (rC + (nI 1)) hh fi fo fw fe fr ff fp fl fc) H := hP
          subst hQ
          exact W.vret hx hb hr (fun t ht hWm => ⟨⟨fe, rfl, hg_fe, (show va_P D cls2 _ t.heap from by rw [ht]; exact hP)⟩, hS.F ht⟩) hS.2.2 dX1_oneRound_52
        | succ j ih =>
          intro k hk_k fe H locs hg_fe hP hS ls hl
          have hlt_k : k < n := by omega
          refine lv_iload_n hx hb dX1_oneRound_23 rfl (lv_at hl 1 rfl) ?_
          refine lv_aload_n hx hb dX1_oneRound_24 rfl (lv_at hl 0 rfl) ?_
          refine w_getM (own := RX1) (v := .int (nI n)) S in_w hK hP rfl 1 (by decide) fl_7 rfl rfl dX1_oneRound_25 ?_
          refine lv_icmp_ge (tgt := 42) hx hb dX1_oneRound_28 (by decide) (fun h28_1 => absurd h28_1 (nI_ge hlt_k (by omega))) (fun h28_1 => ?_)
          refine lv_aload_n hx hb dX1_oneRound_31 rfl (lv_at hl 0 rfl) ?_
          refine lv_iload_n hx hb dX1_oneRound_32 rfl (lv_at hl 1 rfl) ?_
          refine va_callv (va_runV (As := [.int (nI k)]) (rest := []) S (c_X1_columnStep hn hO hg_fe (i := k) (by omega) (ho.2 k (by omega)) hq) (cwV 1 hts gX1_oneRound_X1_columnStep rfl rfl rfl hdX1_columnStep ⟨Nat.le_of_ble_eq_true rfl, Nat.le_of_ble_eq_true rfl⟩) (preV hK hP rfl rfl) rfl rfl hl.1 rfl (lv_room (Nat.le_of_ble_eq_true rfl)) dX1_oneRound_33 ⟨Nat.zero_le _, Nat.zero_le _⟩) hS (fun _ _ h => h) (fun _ h => h) (fun u_2 t H locs ht hvm hw_3 hB hz1 hk1 hS => ?_)
          replace hB : va_P D cls2 _ t.heap := hB
          rw [ht] at hB
          have hP : va_P D cls2 (mW q cI cD th (nI n) rC hh fi fo fw u_2 fr ff fp fl fc) H := hB
          refine lv_iinc (v := nI (k + 1)) (lv' := [(1, .int (nI (k + 1))), (0, .ref (q 0))]) hx hb dX1_oneRound_36 hl (k := 1) rfl (by rw [show Int32.ofInt 1 = nI 1 from by decide, nI_add]) (by decide) rfl (fun ls hl => ?_)
          refine lv_goto (tgt := 23) hx hb dX1_oneRound_39 (by decide) ?_
          have eq_4 : colsK n out (rowsK n inf e n) (k + 1) = colSt n out (colsK n out (rowsK n inf e n) k) k := by rfl
          exact ih (k + 1) (by omega) _ _ _ (by rw [eq_4]; exact hw_3) hP hS ls (lv_sub hl [1, 0] rfl)
      exact lp23 (n - 0) 0 (by omega) _ _ _ hg_fe hP hS ls (lv_sub hl [1, 0] rfl)
    | succ j ih =>
      intro i hk_i fe H locs hg_fe hP hS ls hl
      have hlt_i : i < n := by omega
      refine lv_iload_n hx hb dX1_oneRound_2 rfl (lv_at hl 1 rfl) ?_
      refine lv_aload_n hx hb dX1_oneRound_3 rfl (lv_at hl 0 rfl) ?_
      refine w_getM (own := RX1) (v := .int (nI n)) S in_w hK hP rfl 1 (by decide) fl_7 rfl rfl dX1_oneRound_4 ?_
      refine lv_icmp_ge (tgt := 21) hx hb dX1_oneRound_7 (by decide) (fun h7_0 => absurd h7_0 (nI_ge hlt_i (by omega))) (fun h7_0 => ?_)
      refine lv_aload_n hx hb dX1_oneRound_10 rfl (lv_at hl 0 rfl) ?_
      refine lv_iload_n hx hb dX1_oneRound_11 rfl (lv_at hl 1 rfl) ?_
      refine va_callv (va_runV (As := [.int (nI i)]) (rest := []) S (c_X1_rowStep hn hI hg_fe (i := i) (by omega) (ho.1 i (by omega)) hq) (cwV 1 hts gX1_oneRound_X1_rowStep rfl rfl rfl hdX1_rowStep ⟨Nat.le_of_ble_eq_true rfl, Nat.le_of_ble_eq_true rfl⟩) (preV hK hP rfl rfl) rfl rfl hl.1 rfl (lv_room (Nat.le_of_ble_eq_true rfl)) dX1_oneRound_12 ⟨Nat.zero_le _, Nat.zero_le _⟩) hS (fun _ _ h => h) (fun _ h => h) (fun u_6 t H locs ht hvm hw_7 hB hz1 hk1 hS => ?_)
      replace hB : va_P D cls2 _ t.heap := hB
      rw [ht] at hB
      have hP : va_P D cls2 (mW q cI cD th (nI n) rC hh fi fo fw u_6 fr ff fp fl fc) H := hB
      refine lv_iinc (v := nI (i + 1)) (lv' := [(1, .int (nI (i + 1))), (0, .ref (q 0))]) hx hb dX1_oneRound_15 hl (k := 1) rfl (by rw [show Int32.ofInt 1 = nI 1 from by decide, nI_add]) (by decide) rfl (fun ls hl => ?_)
      refine lv_goto (tgt := 2) hx hb dX1_oneRound_18 (by decide) ?_
      have eq_8 : rowsK n inf e (i + 1) = rowSt n inf (rowsK n inf e i) i := by rfl
      exact ih (i + 1) (by omega) _ _ _ (by rw [eq_8]; exact hw_7) hP hS ls (lv_sub hl [1, 0] rfl)
  exact lp2 (n - 0) 0 (by omega) _ _ _ hE hP hS ls (lv_sub hl [1, 0] rfl)
abbrev rX1_far : Room := { frames := 0, cells := 0, slots := 0, locals := 0 }
theorem hdX1_far : yX1_far.cls ≠ "java/lang/invoke/MethodHandle" ∧ yX1_far.cls ≠ "java/lang/invoke/VarHandle" ∧ (parseMethodDescriptor yX1_far.desc).map (fun d => d.parameters.length) = some 2 := by decide +kernel
set_option maxHeartbeats 4000000 in
set_option maxRecDepth 100000 in
theorem c_X1_far {l : Launch} {x y : UInt64} (ho : frP x y) : Met l yX1_far wsX1_far rX1_far (va_Pc [.double x, .double y] (fun _ => True)) (vp_Sd (fun r => r = dist x y)) 0 0 (fun _ => False) := by
  refine met_intro (cc := cX1_far) (maxL := 4) (ret := (some .double)) (own := RX1) (by decide) rfl rfl (Nat.le_of_ble_eq_true rfl) ?_
  intro pp ee ss mm args below meth cd Q ls hQ S hr hlocks hv hB hl
  obtain ⟨hx, hb, hml, hown, hts⟩ := id S
  have hl : lv_has ls 4 [(0, .double x), (2, .double y)] := hl
  refine lv_dload_n hx hb dX1_far_0 rfl (lv_at hl 0 rfl) ?_
  refine lv_dload_n hx hb dX1_far_1 rfl (lv_at hl 1 rfl) ?_
  refine w_dgt (tgt := 12) hx hb dX1_far_2 dX1_far_3 (by decide) (fun h2_0 => ?_) (fun h2_0 => ?_)
  · refine lv_dload_n hx hb dX1_far_12 rfl (lv_at hl 1 rfl) ?_
    refine lv_dload_n hx hb dX1_far_13 rfl (lv_at hl 0 rfl) ?_
    refine lv_dsub hx hb dX1_far_14 ho.2.1 ?_
    subst hQ
    exact W.dret hx hb hr (fun t ht hWm => ⟨_, rfl, (by rw [← ho.2.2]; unfold far; rw [h2_0]; rfl), ht⟩) (fun q h => absurd h List.not_mem_nil) dX1_far_15
  · refine lv_dload_n hx hb dX1_far_6 rfl (lv_at hl 0 rfl) ?_
    refine lv_dload_n hx hb dX1_far_7 rfl (lv_at hl 1 rfl) ?_
    refine lv_dsub hx hb dX1_far_8 ho.1 ?_
    refine lv_goto (tgt := 15) hx hb dX1_far_9 (by decide) ?_
    subst hQ
    exact W.dret hx hb hr (fun t ht hWm => ⟨_, rfl, (by rw [← ho.2.2]; unfold far; rw [h2_0]; rfl), ht⟩) (fun q h => absurd h List.not_mem_nil) dX1_far_15
abbrev rX1_misfitNow : Room := { frames := 1, cells := 0, slots := 0, locals := 24 }
theorem hdX1_misfitNow : yX1_misfitNow.cls = RX1 ∧ yX1_misfitNow.cls ≠ "java/lang/invoke/MethodHandle" ∧ yX1_misfitNow.cls ≠ "java/lang/invoke/VarHandle" ∧ (parseMethodDescriptor yX1_misfitNow.desc).map (fun d => d.parameters.length) = some 0 := by decide +kernel
set_option maxHeartbeats 4000000 in
set_option maxRecDepth 100000 in
theorem c_X1_misfitNow {l : Launch} {D : va_G} {q : Nat → Nat} {cI cD : ClassId} {th rC : Int32} {hh : Int64} {fi fo fw : Nat → Int32} {fe : Nat → UInt64} {fr : Nat → Int32} {ff : Nat → UInt64} {fp fl fc : Nat → Int32} {n : Nat} (hn : 3 ≤ n ∧ n ≤ 6) {inf : Nat → Int32} (hI : ag1 n fi inf) {out : Nat → Int32} (hO : ag1 n fo out) {e : Nat → Nat → UInt64} (hE : ag2 n fe e) (ho : okF n inf out e) : Met l yX1_misfitNow wsX1_misfitNow rX1_misfitNow (va_Pc [.ref (q 0)] (wPre D (tys2 cI cD) (mW q cI cD th (nI n) rC hh fi fo fw fe fr ff fp fl fc))) (vp_Sd (fun r => r = misK n inf out e n)) 0 0 (fun _ => False) := by
  refine met_intro (cc := cX1_misfitNow) (maxL := 8) (ret := (some .double)) (own := RX1) (by decide) rfl rfl (Nat.le_of_ble_eq_true rfl) ?_
  intro pp ee ss mm args below meth cd Q ls hQ S hr hlocks hv hB hl
  obtain ⟨hx, hb, hml, hown, hts⟩ := id S
  obtain ⟨hP, hK⟩ := hB
  have in_w : ∀ w ∈ wsX10, w ∈ wsX1_misfitNow := by decide +kernel
  have fl_7 : Cond.fieldLink RX1 7 RX1 (TX1 1).2.1 (TX1 1).2.2.1 ∈ wsX1_misfitNow := by decide +kernel
  have fl_13 : Cond.fieldLink RX1 13 RX1 (TX1 2).2.1 (TX1 2).2.2.1 ∈ wsX1_misfitNow := by decide +kernel
  have fl_17 : Cond.fieldLink RX1 17 RX1 (TX1 3).2.1 (TX1 3).2.2.1 ∈ wsX1_misfitNow := by decide +kernel
  have hl : lv_has ls 8 [(0, .ref (q 0))] := hl
  refine lv_dconst0 hx hb dX1_misfitNow_0 ?_
  refine lv_dstore_n (lv' := [(1, .double FP.dconst0), (0, .ref (q 0))]) hx hb dX1_misfitNow_1 rfl hl (by decide) rfl (fun ls hl => ?_)
  refine lv_iconst (v := nI 0) hx hb dX1_misfitNow_2 (by decide) ?_
  refine lv_istore_n (lv' := [(3, .int (nI 0)), (1, .double FP.dconst0), (0, .ref (q 0))]) hx hb dX1_misfitNow_3 rfl hl (by decide) rfl (fun ls hl => ?_)
  have lp4 : ∀ (j k : Nat), k + j = n → ∀ ls : Array Slot, lv_has ls 8 [(0, .ref (q 0)), (1, .double (misK n inf out e k)), (3, .int (nI k))] → W pp l ee rX1_misfitNow ss mm args below meth cd ss.heap [] 0 0 Q (F0 mm 4 ls []) := by
    intro j
    induction j with
    | zero =>
      intro k hk_k ls hl
      have hke_k : n = k := by omega
      subst hke_k
      refine lv_iload_n hx hb dX1_misfitNow_4 rfl (lv_at hl 2 rfl) ?_
      refine lv_aload_n hx hb dX1_misfitNow_5 rfl (lv_at hl 0 rfl) ?_
      refine w_getM (own := RX1) (v := .int (nI n)) S in_w hK hP rfl 1 (by decide) fl_7 rfl rfl dX1_misfitNow_6 ?_
      refine lv_icmp_ge (tgt := 80) hx hb dX1_misfitNow_9 (by decide) (fun h9_0 => ?_) (fun h9_0 => absurd (Int32.le_refl _) h9_0)
      refine lv_dload_n hx hb dX1_misfitNow_80 rfl (lv_at hl 1 rfl) ?_
      subst hQ
      exact W.dret hx hb hr (fun t ht hWm => ⟨_, rfl, rfl, ht⟩) (fun q h => absurd h List.not_mem_nil) dX1_misfitNow_81
    | succ j ih =>
      intro k hk_k ls hl
      have hlt_k : k < n := by omega
      refine lv_iload_n hx hb dX1_misfitNow_4 rfl (lv_at hl 2 rfl) ?_
      refine lv_aload_n hx hb dX1_misfitNow_5 rfl (lv_at hl 0 rfl) ?_
      refine w_getM (own := RX1) (v := .int (nI n)) S in_w hK hP rfl 1 (by decide) fl_7 rfl rfl dX1_misfitNow_6 ?_
      refine lv_icmp_ge (tgt := 80) hx hb dX1_misfitNow_9 (by decide) (fun h9_0 => absurd h9_0 (nI_ge hlt_k (by omega))) (fun h9_0 => ?_)
      refine lv_aload_n hx hb dX1_misfitNow_12 rfl (lv_at hl 0 rfl) ?_
      refine lv_iload_n hx hb dX1_misfitNow_13 rfl (lv_at hl 2 rfl) ?_
      refine vp_callSd (W.runV (As := [.int (nI k)]) (rest := []) S (c_X1_rowSum hn hE (i := k) (by omega) (ho k (by omega)).1) (cwV 1 hts gX1_misfitNow_X1_rowSum rfl rfl rfl hdX1_rowSum ⟨Nat.le_of_ble_eq_true rfl, Nat.le_of_ble_eq_true rfl⟩) (preV hK hP rfl rfl) rfl rfl hl.1 rfl (lv_room (Nat.le_of_ble_eq_true rfl)) dX1_misfitNow_14 ⟨Nat.zero_le _, Nat.zero_le _⟩) (fun r_1 er_1 => ?_)
      subst er_1
      refine lv_aload_n hx hb dX1_misfitNow_17 rfl (lv_at hl 0 rfl) ?_
      refine w_getM (own := RX1) (v := .ref (q 1)) S in_w hK hP rfl 2 (by decide) fl_13 rfl rfl dX1_misfitNow_18 ?_
      refine lv_iload_n hx hb dX1_misfitNow_21 rfl (lv_at hl 2 rfl) ?_
      refine w_iald hx hb hK hP 1 0 rfl rfl (j := k) (v := inf k) (hI k (by omega)) (by omega) (by decide) dX1_misfitNow_22 ?_
      refine lv_i2d hx hb dX1_misfitNow_23 ?_
      refine vp_callSd (W.runS (As := [.double (rowS e n k), .double (FP.i2d (inf k))]) (rest := []) S (c_X1_far (x := rowS e n k) (y := FP.i2d (inf k)) (ho k (by omega)).2.2.1) (va_cwS 2 hts gX1_misfitNow_X1_far rfl rfl rfl hdX1_far ⟨Nat.le_of_ble_eq_true rfl, Nat.le_of_ble_eq_true rfl⟩) preS rfl rfl hl.1 rfl (lv_room (Nat.le_of_ble_eq_true rfl)) dX1_misfitNow_24 ⟨Nat.zero_le _, Nat.zero_le _⟩) (fun r_2 er_2 => ?_)
      subst er_2
      refine lv_dstore (lv' := [(4, .double (dist (rowS e n k) (FP.i2d (inf k)))), (0, .ref (q 0)), (1, .double (misK n inf out e k)), (3, .int (nI k))]) hx hb dX1_misfitNow_27 hl (by decide) rfl (fun ls hl => ?_)
      refine lv_aload_n hx hb dX1_misfitNow_29 rfl (lv_at hl 1 rfl) ?_
      refine lv_iload_n hx hb dX1_misfitNow_30 rfl (lv_at hl 3 rfl) ?_
      refine vp_callSd (W.runV (As := [.int (nI k)]) (rest := []) S (c_X1_columnSum hn hE (i := k) (by omega) (ho k (by omega)).2.1) (cwV 1 hts gX1_misfitNow_X1_columnSum rfl rfl rfl hdX1_columnSum ⟨Nat.le_of_ble_eq_true rfl, Nat.le_of_ble_eq_true rfl⟩) (preV hK hP rfl rfl) rfl rfl hl.1 rfl (lv_room (Nat.le_of_ble_eq_true rfl)) dX1_misfitNow_31 ⟨Nat.zero_le _, Nat.zero_le _⟩) (fun r_3 er_3 => ?_)
      subst er_3
      refine lv_aload_n hx hb dX1_misfitNow_34 rfl (lv_at hl 1 rfl) ?_
      refine w_getM (own := RX1) (v := .ref (q 2)) S in_w hK hP rfl 3 (by decide) fl_17 rfl rfl dX1_misfitNow_35 ?_
      refine lv_iload_n hx hb dX1_misfitNow_38 rfl (lv_at hl 3 rfl) ?_
      refine w_iald hx hb hK hP 2 0 rfl rfl (j := k) (v := out k) (hO k (by omega)) (by omega) (by decide) dX1_misfitNow_39 ?_
      refine lv_i2d hx hb dX1_misfitNow_40 ?_
      refine vp_callSd (W.runS (As := [.double (colS e n k), .double (FP.i2d (out k))]) (rest := []) S (c_X1_far (x := colS e n k) (y := FP.i2d (out k)) (ho k (by omega)).2.2.2) (va_cwS 2 hts gX1_misfitNow_X1_far rfl rfl rfl hdX1_far ⟨Nat.le_of_ble_eq_true rfl, Nat.le_of_ble_eq_true rfl⟩) preS rfl rfl hl.1 rfl (lv_room (Nat.le_of_ble_eq_true rfl)) dX1_misfitNow_41 ⟨Nat.zero_le _, Nat.zero_le _⟩) (fun r_4 er_4 => ?_)
      subst er_4
      refine lv_dstore (lv' := [(6, .double (dist (colS e n k) (FP.i2d (out k)))), (4, .double (dist (rowS e n k) (FP.i2d (inf k)))), (0, .ref (q 0)), (1, .double (misK n inf out e k)), (3, .int (nI k))]) hx hb dX1_misfitNow_44 hl (by decide) rfl (fun ls hl => ?_)
      refine lv_dload hx hb dX1_misfitNow_46 (lv_at hl 1 rfl) ?_
      refine lv_dload_n hx hb dX1_misfitNow_48 rfl (lv_at hl 3 rfl) ?_
      refine w_dgt (tgt := 58) hx hb dX1_misfitNow_49 dX1_misfitNow_50 (by decide) (fun h49_1 => ?_) (fun h49_1 => ?_)
      · refine lv_dload_n hx hb dX1_misfitNow_58 rfl (lv_at hl 3 rfl) ?_
        refine lv_dstore_n (lv' := [(1, .double (misK n inf out e k)), (6, .double (dist (colS e n k) (FP.i2d (out k)))), (4, .double (dist (rowS e n k) (FP.i2d (inf k)))), (0, .ref (q 0)), (3, .int (nI k))]) hx hb dX1_misfitNow_59 rfl hl (by decide) rfl (fun ls hl => ?_)
        refine lv_dload hx hb dX1_misfitNow_60 (lv_at hl 1 rfl) ?_
        refine lv_dload_n hx hb dX1_misfitNow_62 rfl (lv_at hl 0 rfl) ?_
        refine w_dgt (tgt := 72) hx hb dX1_misfitNow_63 dX1_misfitNow_64 (by decide) (fun h63_2 => ?_) (fun h63_2 => ?_)
        · refine lv_dload_n hx hb dX1_misfitNow_72 rfl (lv_at hl 0 rfl) ?_
          refine lv_dstore_n (lv' := [(1, .double (misK n inf out e k)), (6, .double (dist (colS e n k) (FP.i2d (out k)))), (4, .double (dist (rowS e n k) (FP.i2d (inf k)))), (0, .ref (q 0)), (3, .int (nI k))]) hx hb dX1_misfitNow_73 rfl hl (by decide) rfl (fun ls hl => ?_)
          refine lv_iinc (v := nI (k + 1)) (lv' := [(3, .int (nI (k + 1))), (1, .double (misK n inf out e k)), (6, .double (dist (colS e n k) (FP.i2d (out k)))), (4, .double (dist (rowS e n k) (FP.i2d (inf k)))), (0, .ref (q 0))]) hx hb dX1_misfitNow_74 hl (k := 4) rfl (by rw [show Int32.ofInt 1 = nI 1 from by decide, nI_add]) (by decide) rfl (fun ls hl => ?_)
          refine lv_goto (tgt := 4) hx hb dX1_misfitNow_77 (by decide) ?_
          have eq_5 : misK n inf out e (k + 1) = misK n inf out e k := by (show misB n inf out e k (misK n inf out e k) = _; unfold misB; simp only [h49_1, h63_2, reduceIte, Bool.false_eq_true])
          have hl : lv_has ls 8 [(3, .int (nI (k + 1))), (1, .double (misK n inf out e (k + 1))), (6, .double (dist (colS e n k) (FP.i2d (out k)))), (4, .double (dist (rowS e n k) (FP.i2d (inf k)))), (0, .ref (q 0))] := by first | exact hl | (rw [eq_5]; exact hl)
          exact ih (k + 1) (by omega) ls (lv_sub hl [4, 1, 0] rfl)
        · refine lv_dload hx hb dX1_misfitNow_67 (lv_at hl 1 rfl) ?_
          refine lv_goto (tgt := 73) hx hb dX1_misfitNow_69 (by decide) ?_
          refine lv_dstore_n (lv' := [(1, .double (dist (colS e n k) (FP.i2d (out k)))), (6, .double (dist (colS e n k) (FP.i2d (out k)))), (4, .double (dist (rowS e n k) (FP.i2d (inf k)))), (0, .ref (q 0)), (3, .int (nI k))]) hx hb dX1_misfitNow_73 rfl hl (by decide) rfl (fun ls hl => ?_)
          refine lv_iinc (v := nI (k + 1)) (lv' := [(3, .int (nI (k + 1))), (1, .double (dist (colS e n k) (FP.i2d (out k)))), (6, .double (dist (colS e n k) (FP.i2d (out k)))), (4, .double (dist (rowS e n k) (FP.i2d (inf k)))), (0, .ref (q 0))]) hx hb dX1_misfitNow_74 hl (k := 4) rfl (by rw [show Int32.ofInt 1 = nI 1 from by decide, nI_add]) (by decide) rfl (fun ls hl => ?_)
          refine lv_goto (tgt := 4) hx hb dX1_misfitNow_77 (by decide) ?_
          have eq_6 : misK n inf out e (k + 1) = dist (colS e n k) (FP.i2d (out k)) := by (show misB n inf out e k (misK n inf out e k) = _; unfold misB; simp only [h49_1, h63_2, reduceIte, Bool.false_eq_true])
          have hl : lv_has ls 8 [(3, .int (nI (k + 1))), (1, .double (misK n inf out e (k + 1))), (6, .double (dist (colS e n k) (FP.i2d (out k)))), (4, .double (dist (rowS e n k) (FP.i2d (inf k)))), (0, .ref (q 0))] := by first | exact hl | (rw [eq_6]; exact hl)
          exact ih (k + 1) (by omega) ls (lv_sub hl [4, 1, 0] rfl)
      · refine lv_dload hx hb dX1_misfitNow_53 (lv_at hl 1 rfl) ?_
        refine lv_goto (tgt := 59) hx hb dX1_misfitNow_55 (by decide) ?_
        refine lv_dstore_n (lv' := [(1, .double (dist (rowS e n k) (FP.i2d (inf k)))), (6, .double (dist (colS e n k) (FP.i2d (out k)))), (4, .double (dist (rowS e n k) (FP.i2d (inf k)))), (0, .ref (q 0)), (3, .int (nI k))]) hx hb dX1_misfitNow_59 rfl hl (by decide) rfl (fun ls hl => ?_)
        refine lv_dload hx hb dX1_misfitNow_60 (lv_at hl 1 rfl) ?_
        refine lv_dload_n hx hb dX1_misfitNow_62 rfl (lv_at hl 0 rfl) ?_
        refine w_dgt (tgt := 72) hx hb dX1_misfitNow_63 dX1_misfitNow_64 (by decide) (fun h63_2 => ?_) (fun h63_2 => ?_)
        · refine lv_dload_n hx hb dX1_misfitNow_72 rfl (lv_at hl 0 rfl) ?_
          refine lv_dstore_n (lv' := [(1, .double (dist (rowS e n k) (FP.i2d (inf k)))), (6, .double (dist (colS e n k) (FP.i2d (out k)))), (4, .double (dist (rowS e n k) (FP.i2d (inf k)))), (0, .ref (q 0)), (3, .int (nI k))]) hx hb dX1_misfitNow_73 rfl hl (by decide) rfl (fun ls hl => ?_)
          refine lv_iinc (v := nI (k + 1)) (lv' := [(3, .int (nI (k + 1))), (1, .double (dist (rowS e n k) (FP.i2d (inf k)))), (6, .double (dist (colS e n k) (FP.i2d (out k)))), (4, .double (dist (rowS e n k) (FP.i2d (inf k)))), (0, .ref (q 0))]) hx hb dX1_misfitNow_74 hl (k := 4) rfl (by rw [show Int32.ofInt 1 = nI 1 from by decide, nI_add]) (by decide) rfl (fun ls hl => ?_)
          refine lv_goto (tgt := 4) hx hb dX1_misfitNow_77 (by decide) ?_
          have eq_7 : misK n inf out e (k + 1) = dist (rowS e n k) (FP.i2d (inf k)) := by (show misB n inf out e k (misK n inf out e k) = _; unfold misB; simp only [h49_1, h63_2, reduceIte, Bool.false_eq_true])
          have hl : lv_has ls 8 [(3, .int (nI (k + 1))), (1, .double (misK n inf out e (k + 1))), (6, .double (dist (colS e n k) (FP.i2d (out k)))), (4, .double (dist (rowS e n k) (FP.i2d (inf k)))), (0, .ref (q 0))] := by first | exact hl | (rw [eq_7]; exact hl)
          exact ih (k + 1) (by omega) ls (lv_sub hl [4, 1, 0] rfl)
        · refine lv_dload hx hb dX1_misfitNow_67 (lv_at hl 1 rfl) ?_
          refine lv_goto (tgt := 73) hx hb dX1_misfitNow_69 (by decide) ?_
          refine lv_dstore_n (lv' := [(1, .double (dist (colS e n k) (FP.i2d (out k)))), (6, .double (dist (colS e n k) (FP.i2d (out k)))), (4, .double (dist (rowS e n k) (FP.i2d (inf k)))), (0, .ref (q 0)), (3, .int (nI k))]) hx hb dX1_misfitNow_73 rfl hl (by decide) rfl (fun ls hl => ?_)
          refine lv_iinc (v := nI (k + 1)) (lv' := [(3, .int (nI (k + 1))), (1, .double (dist (colS e n k) (FP.i2d (out k)))), (6, .double (dist (colS e n k) (FP.i2d (out k)))), (4, .double (dist (rowS e n k) (FP.i2d (inf k)))), (0, .ref (q 0))]) hx hb dX1_misfitNow_74 hl (k := 4) rfl (by rw [show Int32.ofInt 1 = nI 1 from by decide, nI_add]) (by decide) rfl (fun ls hl => ?_)
          refine lv_goto (tgt := 4) hx hb dX1_misfitNow_77 (by decide) ?_
          have eq_8 : misK n inf out e (k + 1) = dist (colS e n k) (FP.i2d (out k)) := by (show misB n inf out e k (misK n inf out e k) = _; unfold misB; simp only [h49_1, h63_2, reduceIte, Bool.false_eq_true])
          have hl : lv_has ls 8 [(3, .int (nI (k + 1))), (1, .double (misK n inf out e (k + 1))), (6, .double (dist (colS e n k) (FP.i2d (out k)))), (4, .double (dist (rowS e n k) (FP.i2d (inf k)))), (0, .ref (q 0))] := by first | exact hl | (rw [eq_8]; exact hl)
          exact ih (k + 1) (by omega) ls (lv_sub hl [4, 1, 0] rfl)
  exact lp4 (n - 0) 0 (by omega) ls (lv_sub hl [2, 1, 0] rfl)
abbrev rX1_misfit : Room := { frames := 2, cells := 0, slots := 0, locals := 51 }
theorem hdX1_misfit : yX1_misfit.cls = RX1 ∧ yX1_misfit.cls ≠ "java/lang/invoke/MethodHandle" ∧ yX1_misfit.cls ≠ "java/lang/invoke/VarHandle" ∧ (parseMethodDescriptor yX1_misfit.desc).map (fun d => d.parameters.length) = some 0 := by decide +kernel
set_option maxHeartbeats 4000000 in
set_option maxRecDepth 100000 in
theorem c_X1_misfit {l : Launch} {D : va_G} {q : Nat → Nat} {cI cD : ClassId} {th rC : Int32} {hh : Int64} {fi fo fw : Nat → Int32} {fe : Nat → UInt64} {fr : Nat → Int32} {ff : Nat → UInt64} {fp fl fc : Nat → Int32} {n : Nat} (hn : 3 ≤ n ∧ n ≤ 6) {inf : Nat → Int32} (hI : ag1 n fi inf) {out : Nat → Int32} (hO : ag1 n fo out) {e : Nat → Nat → UInt64} (hE : ag2 n fe e) (ho : okF n inf out e) (hq : qD q) : Met l yX1_misfit wsX1_misfit rX1_misfit (va_Pc [.ref (q 0)] (wPre D (tys2 cI cD) (mW q cI cD th (nI n) rC hh fi fo fw fe fr ff fp fl fc))) (va_Qd (fun r (u : Unit) => r = misK n inf out e n) (fun u t => va_P D cls2 (mW q cI cD (nI 0) (nI n) rC hh fi fo fw fe fr ff fp fl fc) t.heap) (qA q)) 0 0 (qA q) := by
  refine met_intro (cc := cX1_misfit) (maxL := 1) (ret := (some .double)) (own := RX1) (by decide) rfl rfl (Nat.le_of_ble_eq_true rfl) ?_
  intro pp ee ss mm args below meth cd Q ls hQ S hr hlocks hv hB hl
  obtain ⟨hx, hb, hml, hown, hts⟩ := id S
  obtain ⟨hP, hK⟩ := hB
  have in_w : ∀ w ∈ wsX10, w ∈ wsX1_misfit := by decide +kernel
  have fl_45 : Cond.fieldLink RX1 45 RX1 (TX1 0).2.1 (TX1 0).2.2.1 ∈ wsX1_misfit := by decide +kernel
  have hS : va_S (qA q) ss.heap ss.heap [] := va_S.rf
  generalize hHg : ss.heap = H at hP
  have hS : va_S (qA q) ss.heap H [] := by rw [← hHg]; exact hS
  suffices hgo : ∀ locs : List Loc, va_S (qA q) ss.heap H locs → W pp l ee rX1_misfit ss mm args below meth cd H locs 0 0 Q (F0 mm 0 ls []) by
    first | exact hgo [] hS | (rw [hHg]; exact hgo [] hS)
  clear hS
  intro locs hS
  have hl : lv_has ls 1 [(0, .ref (q 0))] := hl
  refine lv_aload_n hx hb dX1_misfit_0 rfl (lv_at hl 0 rfl) ?_
  refine lv_iconst (v := nI 0) hx hb dX1_misfit_1 (by decide) ?_
  refine w_putM (v := .int (nI 0)) (ty := .int) S in_w hK hP (wD_of hq rfl) hS rfl 0 (by decide) fl_45 rfl (by decide +kernel) rfl rfl (Nat.le_of_ble_eq_true rfl) rfl dX1_misfit_2 (fun H locs hP hS => ?_)
  have hP : va_P D cls2 (mW q cI cD (nI 0) (nI n) rC hh fi fo fw fe fr ff fp fl fc) H := hP
  refine lv_aload_n hx hb dX1_misfit_5 rfl (lv_at hl 0 rfl) ?_
  refine vp_callSd (W.runV (As := []) (rest := []) S (c_X1_misfitNow hn hI hO hE ho) (cwV 0 hts gX1_misfit_X1_misfitNow rfl rfl rfl hdX1_misfitNow ⟨Nat.le_of_ble_eq_true rfl, Nat.le_of_ble_eq_true rfl⟩) (preV hK hP rfl rfl) rfl rfl hl.1 rfl (lv_room (Nat.le_of_ble_eq_true rfl)) dX1_misfit_6 ⟨Nat.zero_le _, Nat.zero_le _⟩) (fun r_1 er_1 => ?_)
  subst er_1
  subst hQ
  exact W.dret hx hb hr (fun t ht hWm => ⟨⟨_, (), rfl, rfl, (show va_P D cls2 _ t.heap from by rw [ht]; exact hP)⟩, hS.F ht⟩) hS.2.2 dX1_misfit_9
abbrev rX1_iterate : Room := { frames := 3, cells := 0, slots := 0, locals := 71 }
theorem hdX1_iterate : yX1_iterate.cls = RX1 ∧ yX1_iterate.cls ≠ "java/lang/invoke/MethodHandle" ∧ yX1_iterate.cls ≠ "java/lang/invoke/VarHandle" ∧ (parseMethodDescriptor yX1_iterate.desc).map (fun d => d.parameters.length) = some 1 := by decide +kernel
set_option maxHeartbeats 4000000 in
set_option maxRecDepth 100000 in
theorem c_X1_iterate {l : Launch} {D : va_G} {q : Nat → Nat} {cI cD : ClassId} {th rC : Int32} {hh : Int64} {fi fo fw : Nat → Int32} {fe : Nat → UInt64} {fr : Nat → Int32} {ff : Nat → UInt64} {fp fl fc : Nat → Int32} {n : Nat} (hn : 3 ≤ n ∧ n ≤ 6) {inf : Nat → Int32} (hI : ag1 n fi inf) {out : Nat → Int32} (hO : ag1 n fo out) {e : Nat → Nat → UInt64} (hE : ag2 n fe e) {m : Nat} (hm : 1 ≤ m ∧ m ≤ 50) (ho : ∀ k : Nat, k < m → okRnd n inf out (rndK n inf out k e)) (hq : qD q) : Met l yX1_iterate wsX1_iterate rX1_iterate (va_Pc [.ref (q 0), .int (nI m)] (wPre D (tys2 cI cD) (mW q cI cD th (nI n) rC hh fi fo fw fe fr ff fp fl fc))) (va_Qi (fun r (u : Nat → UInt64) => r = rC + nI m ∧ ag2 n u (rndK n inf out m e)) (fun u t => va_P D cls2 (mW q cI cD (nI 0) (nI n) (rC + nI m) hh fi fo fw u fr ff fp fl fc) t.heap) (qA q)) 0 0 (qA q) := by
  refine met_intro (cc := cX1_iterate) (maxL := 3) (ret := (some .int)) (own := RX1) (by decide) rfl rfl (Nat.le_of_ble_eq_true rfl) ?_
  intro pp ee ss mm args below meth cd Q ls hQ S hr hlocks hv hB hl
  obtain ⟨hx, hb, hml, hown, hts⟩ := id S
  obtain ⟨hP, hK⟩ := hB
  have in_w : ∀ w ∈ wsX10, w ∈ wsX1_iterate := by decide +kernel
  have fl_45 : Cond.fieldLink RX1 45 RX1 (TX1 0).2.1 (TX1 0).2.2.1 ∈ wsX1_iterate := by decide +kernel
  have fl_52 : Cond.fieldLink RX1 52 RX1 (TX1 6).2.1 (TX1 6).2.2.1 ∈ wsX1_iterate := by decide +kernel
  have hS : va_S (qA q) ss.heap ss.heap [] := va_S.rf
  generalize hHg : ss.heap = H at hP
  have hS : va_S (qA q) ss.heap H [] := by rw [← hHg]; exact hS
  suffices hgo : ∀ locs : List Loc, va_S (qA q) ss.heap H locs → W pp l ee rX1_iterate ss mm args below meth cd H locs 0 0 Q (F0 mm 0 ls []) by
    first | exact hgo [] hS | (rw [hHg]; exact hgo [] hS)
  clear hS
  intro locs hS
  have hl : lv_has ls 3 [(0, .ref (q 0)), (1, .int (nI m))] := hl
  refine lv_aload_n hx hb dX1_iterate_0 rfl (lv_at hl 0 rfl) ?_
  refine lv_iload_n hx hb dX1_iterate_1 rfl (lv_at hl 1 rfl) ?_
  refine lv_iconst (v := nI 1) hx hb dX1_iterate_2 (by decide) ?_
  refine lv_bipush (v := nI 50) hx hb dX1_iterate_3 (by decide) ?_
  refine vp_callSi (W.runS (As := [.int (nI m), .int (nI 1), .int (nI 50)]) (rest := [.ref (q 0)]) S (c_X1_within (v := nI m) (a := nI 1) (b := nI 50)) (va_cwS 3 hts gX1_iterate_X1_within rfl rfl rfl hdX1_within ⟨Nat.le_of_ble_eq_true rfl, Nat.le_of_ble_eq_true rfl⟩) preS rfl rfl hl.1 rfl (lv_room (Nat.le_of_ble_eq_true rfl)) dX1_iterate_5 ⟨Nat.zero_le _, Nat.zero_le _⟩) (fun r_1 er_1 => ?_)
  subst er_1
  refine w_ifBeq (tgt := 15) hx hb dX1_iterate_8 (by decide) (fun h8_0 => absurd ((wth_nat hm.1 hm.2 (by decide))) (by rw [h8_0]; decide)) (fun h8_0 => ?_)
  refine lv_iconst (v := nI 0) hx hb dX1_iterate_11 (by decide) ?_
  refine lv_goto (tgt := 16) hx hb dX1_iterate_12 (by decide) ?_
  refine w_putM (v := .int (nI 0)) (ty := .int) S in_w hK hP (wD_of hq rfl) hS rfl 0 (by decide) fl_45 rfl (by decide +kernel) rfl rfl (Nat.le_of_ble_eq_true rfl) rfl dX1_iterate_16 (fun H locs hP hS => ?_)
  have hP : va_P D cls2 (mW q cI cD (nI 0) (nI n) rC hh fi fo fw fe fr ff fp fl fc) H := hP
  refine lv_iconst (v := nI 0) hx hb dX1_iterate_19 (by decide) ?_
  refine lv_istore_n (lv' := [(2, .int (nI 0)), (0, .ref (q 0)), (1, .int (nI m))]) hx hb dX1_iterate_20 rfl hl (by decide) rfl (fun ls hl => ?_)
  have lp21 : ∀ (j k : Nat), k + j = m → ∀ (fe : Nat → UInt64), ∀ (H : Heap) (locs : List Loc), ag2 n fe (rndK n inf out k e) → va_P D cls2 (mW q cI cD (nI 0) (nI n) (rC + nI k) hh fi fo fw fe fr ff fp fl fc) H → va_S (qA q) ss.heap H locs → ∀ ls : Array Slot, lv_has ls 3 [(0, .ref (q 0)), (1, .int (nI m)), (2, .int (nI k))] → W pp l ee rX1_iterate ss mm args below meth cd H locs 0 0 Q (F0 mm 21 ls []) := by
    intro j
    induction j with
    | zero =>
      intro k hk_k fe H locs hg_fe hP hS ls hl
      have hke_k : m = k := by omega
      subst hke_k
      refine lv_iload_n hx hb dX1_iterate_21 rfl (lv_at hl 2 rfl) ?_
      refine lv_iload_n hx hb dX1_iterate_22 rfl (lv_at hl 1 rfl) ?_
      refine lv_icmp_ge (tgt := 43) hx hb dX1_iterate_23 (by decide) (fun h23_1 => ?_) (fun h23_1 => absurd (Int32.le_refl _) h23_1)
      refine lv_aload_n hx hb dX1_iterate_43 rfl (lv_at hl 0 rfl) ?_
      refine w_getM (own := RX1) (v := .int (nI 0)) S in_w hK hP rfl 0 (by decide) fl_45 rfl rfl dX1_iterate_44 ?_
      refine lv_if_le (tgt := 54) hx hb dX1_iterate_47 (by decide) (fun h47_2 => ?_) (fun h47_2 => absurd (by decide) h47_2)
      refine lv_aload_n hx hb dX1_iterate_54 rfl (lv_at hl 0 rfl) ?_
      refine w_getM (own := RX1) (v := .int (rC + nI m)) S in_w hK hP rfl 6 (by decide) fl_52 rfl rfl dX1_iterate_55 ?_
      subst hQ
      exact W.iret hx hb hr (fun t ht hWm => ⟨⟨_, fe, rfl, ⟨rfl, hg_fe⟩, (show va_P D cls2 _ t.heap from by rw [ht]; exact hP)⟩, hS.F ht⟩) hS.2.2 dX1_iterate_58
    | succ j ih =>
      intro k hk_k fe H locs hg_fe hP hS ls hl
      have hlt_k : k < m := by omega
      refine lv_iload_n hx hb dX1_iterate_21 rfl (lv_at hl 2 rfl) ?_
      refine lv_iload_n hx hb dX1_iterate_22 rfl (lv_at hl 1 rfl) ?_
      refine lv_icmp_ge (tgt := 43) hx hb dX1_iterate_23 (by decide) (fun h23_1 => absurd h23_1 (nI_ge hlt_k (by omega))) (fun h23_1 => ?_)
      refine lv_aload_n hx hb dX1_iterate_26 rfl (lv_at hl 0 rfl) ?_
      refine w_getM (own := RX1) (v := .int (nI 0)) S in_w hK hP rfl 0 (by decide) fl_45 rfl rfl dX1_iterate_27 ?_
      refine lv_if_ne (tgt := 43) hx hb dX1_iterate_30 (by decide) (fun h30_2 => absurd (by decide) h30_2) (fun h30_2 => ?_)
      refine lv_aload_n hx hb dX1_iterate_33 rfl (lv_at hl 0 rfl) ?_
      refine va_callv (va_runV (As := []) (rest := []) S (c_X1_oneRound hn hI hO hg_fe (ho k (by omega)) hq) (cwV 0 hts gX1_iterate_X1_oneRound rfl rfl rfl hdX1_oneRound ⟨Nat.le_of_ble_eq_true rfl, Nat.le_of_ble_eq_true rfl⟩) (preV hK hP rfl rfl) rfl rfl hl.1 rfl (lv_room (Nat.le_of_ble_eq_true rfl)) dX1_iterate_34 ⟨Nat.zero_le _, Nat.zero_le _⟩) hS (fun _ _ h => h) (fun _ h => h) (fun u_3 t H locs ht hvm hw_4 hB hz1 hk1 hS => ?_)
      replace hB : va_P D cls2 _ t.heap := hB
      rw [ht] at hB
      have hP : va_P D cls2 (mW q cI cD (nI 0) (nI n) ((rC + nI k) + nI 1) hh fi fo fw u_3 fr ff fp fl fc) H := hB
      refine lv_iinc (v := nI (k + 1)) (lv' := [(2, .int (nI (k + 1))), (0, .ref (q 0)), (1, .int (nI m))]) hx hb dX1_iterate_37 hl (k := 2) rfl (by rw [show Int32.ofInt 1 = nI 1 from by decide, nI_add]) (by decide) rfl (fun ls hl => ?_)
      refine lv_goto (tgt := 21) hx hb dX1_iterate_40 (by decide) ?_
      have eq_5 : rC + nI (k + 1) = (rC + nI k) + nI 1 := by first | rfl | exact (nI_addc _ _).symm
      rw [← eq_5] at hP
      have eq_6 : rndK n inf out (k + 1) e = rnd n inf out (rndK n inf out k e) := by first | rfl | exact (nI_addc _ _).symm
      exact ih (k + 1) (by omega) _ _ _ (by rw [eq_6]; exact hw_4) hP hS ls (lv_sub hl [1, 2, 0] rfl)
  exact lp21 (m - 0) 0 (by omega) _ _ _ hE (by rw [add_nI0]; exact hP) hS ls (lv_sub hl [1, 2, 0] rfl)
set_option maxHeartbeats 4000000 in
set_option maxRecDepth 100000 in
theorem c_X1_iteratex {l : Launch} {D : va_G} {q : Nat → Nat} {cI cD : ClassId} {th rC : Int32} {hh : Int64} {fi fo fw : Nat → Int32} {fe : Nat → UInt64} {fr : Nat → Int32} {ff : Nat → UInt64} {fp fl fc : Nat → Int32} {n : Nat} (hn : 3 ≤ n ∧ n ≤ 6) {x : Int32} (hxx : wth x (nI 1) (nI 50) = false) (hq : qD q) : Met l yX1_iterate wsX1_iterate rX1_iterate (va_Pc [.ref (q 0), .int x] (wPre D (tys2 cI cD) (mW q cI cD th (nI n) rC hh fi fo fw fe fr ff fp fl fc))) (va_Qi (fun r (u : Unit) => True) (fun u t => va_P D cls2 (mW q cI cD (nI 1) (nI n) rC hh fi fo fw fe fr ff fp fl fc) t.heap) (qA q)) 0 0 (qA q) := by
  refine met_intro (cc := cX1_iterate) (maxL := 3) (ret := (some .int)) (own := RX1) (by decide) rfl rfl (Nat.le_of_ble_eq_true rfl) ?_
  intro pp ee ss mm args below meth cd Q ls hQ S hr hlocks hv hB hl
  obtain ⟨hx, hb, hml, hown, hts⟩ := id S
  obtain ⟨hP, hK⟩ := hB
  have in_w : ∀ w ∈ wsX10, w ∈ wsX1_iterate := by decide +kernel
  have fl_45 : Cond.fieldLink RX1 45 RX1 (TX1 0).2.1 (TX1 0).2.2.1 ∈ wsX1_iterate := by decide +kernel
  have hS : va_S (qA q) ss.heap ss.heap [] := va_S.rf
  generalize hHg : ss.heap = H at hP
  have hS : va_S (qA q) ss.heap H [] := by rw [← hHg]; exact hS
  suffices hgo : ∀ locs : List Loc, va_S (qA q) ss.heap H locs → W pp l ee rX1_iterate ss mm args below meth cd H locs 0 0 Q (F0 mm 0 ls []) by
    first | exact hgo [] hS | (rw [hHg]; exact hgo [] hS)
  clear hS
  intro locs hS
  have hl : lv_has ls 3 [(0, .ref (q 0)), (1, .int x)] := hl
  refine lv_aload_n hx hb dX1_iterate_0 rfl (lv_at hl 0 rfl) ?_
  refine lv_iload_n hx hb dX1_iterate_1 rfl (lv_at hl 1 rfl) ?_
  refine lv_iconst (v := nI 1) hx hb dX1_iterate_2 (by decide) ?_
  refine lv_bipush (v := nI 50) hx hb dX1_iterate_3 (by decide) ?_
  refine vp_callSi (W.runS (As := [.int x, .int (nI 1), .int (nI 50)]) (rest := [.ref (q 0)]) S (c_X1_within (v := x) (a := nI 1) (b := nI 50)) (va_cwS 3 hts gX1_iterate_X1_within rfl rfl rfl hdX1_within ⟨Nat.le_of_ble_eq_true rfl, Nat.le_of_ble_eq_true rfl⟩) preS rfl rfl hl.1 rfl (lv_room (Nat.le_of_ble_eq_true rfl)) dX1_iterate_5 ⟨Nat.zero_le _, Nat.zero_le _⟩) (fun r_1 er_1 => ?_)
  subst er_1
  refine w_ifBeq (tgt := 15) hx hb dX1_iterate_8 (by decide) (fun h8_0 => ?_) (fun h8_0 => absurd (hxx) (by rw [h8_0]; decide))
  refine lv_iconst (v := nI 1) hx hb dX1_iterate_15 (by decide) ?_
  refine w_putM (v := .int (nI 1)) (ty := .int) S in_w hK hP (wD_of hq rfl) hS rfl 0 (by decide) fl_45 rfl (by decide +kernel) rfl rfl (Nat.le_of_ble_eq_true rfl) rfl dX1_iterate_16 (fun H locs hP hS => ?_)
  have hP : va_P D cls2 (mW q cI cD (nI 1) (nI n) rC hh fi fo fw fe fr ff fp fl fc) H := hP
  refine lv_iconst (v := nI 0) hx hb dX1_iterate_19 (by decide) ?_
  refine lv_istore_n (lv' := [(2, .int (nI 0)), (0, .ref (q 0)), (1, .int x)]) hx hb dX1_iterate_20 rfl hl (by decide) rfl (fun ls hl => ?_)
  refine lv_iload_n hx hb dX1_iterate_21 rfl (lv_at hl 0 rfl) ?_
  refine lv_iload_n hx hb dX1_iterate_22 rfl (lv_at hl 2 rfl) ?_
  refine lv_icmp_ge (tgt := 43) hx hb dX1_iterate_23 (by decide) (fun h23_1 => ?_) (fun h23_1 => ?_)
  · refine lv_aload_n hx hb dX1_iterate_43 rfl (lv_at hl 1 rfl) ?_
    refine w_getM (own := RX1) (v := .int (nI 1)) S in_w hK hP rfl 0 (by decide) fl_45 rfl rfl dX1_iterate_44 ?_
    refine lv_if_le (tgt := 54) hx hb dX1_iterate_47 (by decide) (fun h47_2 => absurd h47_2 (by decide)) (fun h47_2 => ?_)
    refine lv_iconst (v := nI 0) hx hb dX1_iterate_50 (by decide) ?_
    refine lv_goto (tgt := 58) hx hb dX1_iterate_51 (by decide) ?_
    subst hQ
    exact W.iret hx hb hr (fun t ht hWm => ⟨⟨_, (), rfl, trivial, (show va_P D cls2 _ t.heap from by rw [ht]; exact hP)⟩, hS.F ht⟩) hS.2.2 dX1_iterate_58
  · refine lv_aload_n hx hb dX1_iterate_26 rfl (lv_at hl 1 rfl) ?_
    refine w_getM (own := RX1) (v := .int (nI 1)) S in_w hK hP rfl 0 (by decide) fl_45 rfl rfl dX1_iterate_27 ?_
    refine lv_if_ne (tgt := 43) hx hb dX1_iterate_30 (by decide) (fun h30_2 => ?_) (fun h30_2 => absurd h30_2 (by decide))
    refine lv_aload_n hx hb dX1_iterate_43 rfl (lv_at hl 1 rfl) ?_
    refine w_getM (own := RX1) (v := .int (nI 1)) S in_w hK hP rfl 0 (by decide) fl_45 rfl rfl dX1_iterate_44 ?_
    refine lv_if_le (tgt := 54) hx hb dX1_iterate_47 (by decide) (fun h47_3 => absurd h47_3 (by decide)) (fun h47_3 => ?_)
    refine lv_iconst (v := nI 0) hx hb dX1_iterate_50 (by decide) ?_
    refine lv_goto (tgt := 58) hx hb dX1_iterate_51 (by decide) ?_
    subst hQ
    exact W.iret hx hb hr (fun t ht hWm => ⟨⟨_, (), rfl, trivial, (show va_P D cls2 _ t.heap from by rw [ht]; exact hP)⟩, hS.F ht⟩) hS.2.2 dX1_iterate_58
abbrev rX1_fit : Room := { frames := 3, cells := 0, slots := 0, locals := 71 }
theorem hdX1_fit : yX1_fit.cls = RX1 ∧ yX1_fit.cls ≠ "java/lang/invoke/MethodHandle" ∧ yX1_fit.cls ≠ "java/lang/invoke/VarHandle" ∧ (parseMethodDescriptor yX1_fit.desc).map (fun d => d.parameters.length) = some 2 := by decide +kernel
set_option maxHeartbeats 4000000 in
set_option maxRecDepth 100000 in
theorem c_X1_fit {l : Launch} {D : va_G} {q : Nat → Nat} {cI cD : ClassId} {th rC : Int32} {hh : Int64} {fi fo fw : Nat → Int32} {fe : Nat → UInt64} {fr : Nat → Int32} {ff : Nat → UInt64} {fp fl fc : Nat → Int32} {n : Nat} (hn : 3 ≤ n ∧ n ≤ 6) {inf : Nat → Int32} (hI : ag1 n fi inf) {out : Nat → Int32} (hO : ag1 n fo out) {e : Nat → Nat → UInt64} (hE : ag2 n fe e) {tt m : Nat} (ht : tt ≤ 100000) (hm : 1 ≤ m ∧ m ≤ 100) (hd : vf_n64 (dvT (nI tt))) (ho : ∀ k : Nat, k < m → okRnd n inf out (rndK n inf out k e) ∧ okF n inf out (rndK n inf out k e)) (hq : qD q) : Met l yX1_fit wsX1_fit rX1_fit (va_Pc [.ref (q 0), .int (nI tt), .int (nI m)] (wPre D (tys2 cI cD) (mW q cI cD th (nI n) rC hh fi fo fw fe fr ff fp fl fc))) (va_Qi (fun r (u : Nat → UInt64) => r = nI (fitF n inf out (dvT (nI tt)) m 0 e) ∧ ag2 n u (rndK n inf out (fitF n inf out (dvT (nI tt)) m 0 e) e)) (fun u t => va_P D cls2 (mW q cI cD (nI 0) (nI n) (rC + nI (fitF n inf out (dvT (nI tt)) m 0 e)) hh fi fo fw u fr ff fp fl fc) t.heap) (qA q)) 0 0 (qA q) := by
  refine met_intro (cc := cX1_fit) (maxL := 4) (ret := (some .int)) (own := RX1) (by decide) rfl rfl (Nat.le_of_ble_eq_true rfl) ?_
  intro pp ee ss mm args below meth cd Q ls hQ S hr hlocks hv hB hl
  obtain ⟨hx, hb, hml, hown, hts⟩ := id S
  obtain ⟨hP, hK⟩ := hB
  have in_w : ∀ w ∈ wsX10, w ∈ wsX1_fit := by decide +kernel
  have fl_45 : Cond.fieldLink RX1 45 RX1 (TX1 0).2.1 (TX1 0).2.2.1 ∈ wsX1_fit := by decide +kernel
  have hS : va_S (qA q) ss.heap ss.heap [] := va_S.rf
  generalize hHg : ss.heap = H at hP
  have hS : va_S (qA q) ss.heap H [] := by rw [← hHg]; exact hS
  suffices hgo : ∀ locs : List Loc, va_S (qA q) ss.heap H locs → W pp l ee rX1_fit ss mm args below meth cd H locs 0 0 Q (F0 mm 0 ls []) by
    first | exact hgo [] hS | (rw [hHg]; exact hgo [] hS)
  clear hS
  intro locs hS
  have hl : lv_has ls 4 [(0, .ref (q 0)), (1, .int (nI tt)), (2, .int (nI m))] := hl
  obtain ⟨KK, hKK⟩ : ∃ z, z = fitF n inf out (dvT (nI tt)) m 0 e := ⟨_, rfl⟩
  rw [← hKK] at hQ
  refine lv_aload_n hx hb dX1_fit_0 rfl (lv_at hl 0 rfl) ?_
  refine lv_iload_n hx hb dX1_fit_1 rfl (lv_at hl 1 rfl) ?_
  refine lv_iconst (v := nI 0) hx hb dX1_fit_2 (by decide) ?_
  refine lv_ldc (v := nI 100000) hx hb hown (hts (.constant RX1 105 (nI 100000)) (by decide +kernel)) dX1_fit_3 ?_
  refine vp_callSi (W.runS (As := [.int (nI tt), .int (nI 0), .int (nI 100000)]) (rest := [.ref (q 0)]) S (c_X1_within (v := nI tt) (a := nI 0) (b := nI 100000)) (va_cwS 3 hts gX1_fit_X1_within rfl rfl rfl hdX1_within ⟨Nat.le_of_ble_eq_true rfl, Nat.le_of_ble_eq_true rfl⟩) preS rfl rfl hl.1 rfl (lv_room (Nat.le_of_ble_eq_true rfl)) dX1_fit_5 ⟨Nat.zero_le _, Nat.zero_le _⟩) (fun r_1 er_1 => ?_)
  subst er_1
  refine w_ifBeq (tgt := 25) hx hb dX1_fit_8 (by decide) (fun h8_0 => absurd ((wth_nat (v := tt) (a := 0) (b := 100000) (by omega) ht (by decide))) (by rw [h8_0]; decide)) (fun h8_0 => ?_)
  refine lv_iload_n hx hb dX1_fit_11 rfl (lv_at hl 2 rfl) ?_
  refine lv_iconst (v := nI 1) hx hb dX1_fit_12 (by decide) ?_
  refine lv_bipush (v := nI 100) hx hb dX1_fit_13 (by decide) ?_
  refine vp_callSi (W.runS (As := [.int (nI m), .int (nI 1), .int (nI 100)]) (rest := [.ref (q 0)]) S (c_X1_within (v := nI m) (a := nI 1) (b := nI 100)) (va_cwS 3 hts gX1_fit_X1_within rfl rfl rfl hdX1_within ⟨Nat.le_of_ble_eq_true rfl, Nat.le_of_ble_eq_true rfl⟩) preS rfl rfl hl.1 rfl (lv_room (Nat.le_of_ble_eq_true rfl)) dX1_fit_15 ⟨Nat.zero_le _, Nat.zero_le _⟩) (fun r_2 er_2 => ?_)
  subst er_2
  refine w_ifBeq (tgt := 25) hx hb dX1_fit_18 (by decide) (fun h18_1 => absurd ((wth_nat hm.1 hm.2 (by decide))) (by rw [h18_1]; decide)) (fun h18_1 => ?_)
  refine lv_iconst (v := nI 0) hx hb dX1_fit_21 (by decide) ?_
  refine lv_goto (tgt := 26) hx hb dX1_fit_22 (by decide) ?_
  refine w_putM (v := .int (nI 0)) (ty := .int) S in_w hK hP (wD_of hq rfl) hS rfl 0 (by decide) fl_45 rfl (by decide +kernel) rfl rfl (Nat.le_of_ble_eq_true rfl) rfl dX1_fit_26 (fun H locs hP hS => ?_)
  have hP : va_P D cls2 (mW q cI cD (nI 0) (nI n) rC hh fi fo fw fe fr ff fp fl fc) H := hP
  refine lv_iconst (v := nI 0) hx hb dX1_fit_29 (by decide) ?_
  refine lv_istore_n (lv' := [(3, .int (nI 0)), (0, .ref (q 0)), (1, .int (nI tt)), (2, .int (nI m))]) hx hb dX1_fit_30 rfl hl (by decide) rfl (fun ls hl => ?_)
  have lp31 : ∀ (j k : Nat), k + j = m → ∀ (fe : Nat → UInt64), ∀ (H : Heap) (locs : List Loc), ag2 n fe (rndK n inf out k e) → (fitF n inf out (dvT (nI tt)) j k (rndK n inf out k e) = KK) → va_P D cls2 (mW q cI cD (nI 0) (nI n) (rC + nI k) hh fi fo fw fe fr ff fp fl fc) H → va_S (qA q) ss.heap H locs → ∀ ls : Array Slot, lv_has ls 4 [(0, .ref (q 0)), (1, .int (nI tt)), (2, .int (nI m)), (3, .int (nI k))] → W pp l ee rX1_fit ss mm args below meth cd H locs 0 0 Q (F0 mm 31 ls []) := by
    intro j
    induction j with
    | zero =>
      intro k hk_k fe H locs hg_fe hres hP hS ls hl
      have hke_k : m = k := by omega
      subst hke_k
      refine lv_aload_n hx hb dX1_fit_31 rfl (lv_at hl 0 rfl) ?_
      refine w_getM (own := RX1) (v := .int (nI 0)) S in_w hK hP rfl 0 (by decide) fl_45 rfl rfl dX1_fit_32 ?_
      refine lv_if_ne (tgt := 67) hx hb dX1_fit_35 (by decide) (fun h35_2 => absurd (by decide) h35_2) (fun h35_2 => ?_)
      refine lv_iload_n hx hb dX1_fit_38 rfl (lv_at hl 3 rfl) ?_
      refine lv_iload_n hx hb dX1_fit_39 rfl (lv_at hl 2 rfl) ?_
      refine lv_icmp_ge (tgt := 67) hx hb dX1_fit_40 (by decide) (fun h40_3 => ?_) (fun h40_3 => absurd (Int32.le_refl _) h40_3)
      refine lv_iload_n hx hb dX1_fit_67 rfl (lv_at hl 3 rfl) ?_
      have hk9 : KK = m := by rw [← hres]; rfl
      subst hk9
      subst hQ
      exact W.iret hx hb hr (fun t ht hWm => ⟨⟨_, fe, rfl, ⟨rfl, hg_fe⟩, (show va_P D cls2 _ t.heap from by rw [ht]; exact hP)⟩, hS.F ht⟩) hS.2.2 dX1_fit_68
    | succ j ih =>
      intro k hk_k fe H locs hg_fe hres hP hS ls hl
      have hlt_k : k < m := by omega
      refine lv_aload_n hx hb dX1_fit_31 rfl (lv_at hl 0 rfl) ?_
      refine w_getM (own := RX1) (v := .int (nI 0)) S in_w hK hP rfl 0 (by decide) fl_45 rfl rfl dX1_fit_32 ?_
      refine lv_if_ne (tgt := 67) hx hb dX1_fit_35 (by decide) (fun h35_2 => absurd (by decide) h35_2) (fun h35_2 => ?_)
      refine lv_iload_n hx hb dX1_fit_38 rfl (lv_at hl 3 rfl) ?_
      refine lv_iload_n hx hb dX1_fit_39 rfl (lv_at hl 2 rfl) ?_
      refine lv_icmp_ge (tgt := 67) hx hb dX1_fit_40 (by decide) (fun h40_3 => absurd h40_3 (nI_ge hlt_k (by omega))) (fun h40_3 => ?_)
      refine lv_aload_n hx hb dX1_fit_43 rfl (lv_at hl 0 rfl) ?_
      refine vp_callSd (W.runV (As := []) (rest := []) S (c_X1_misfitNow hn hI hO hg_fe (ho k (by omega)).2) (cwV 0 hts gX1_fit_X1_misfitNow rfl rfl rfl hdX1_misfitNow ⟨Nat.le_of_ble_eq_true rfl, Nat.le_of_ble_eq_true rfl⟩) (preV hK hP rfl rfl) rfl rfl hl.1 rfl (lv_room (Nat.le_of_ble_eq_true rfl)) dX1_fit_44 ⟨Nat.zero_le _, Nat.zero_le _⟩) (fun r_3 er_3 => ?_)
      subst er_3
      refine lv_iload_n hx hb dX1_fit_47 rfl (lv_at hl 1 rfl) ?_
      refine lv_i2d hx hb dX1_fit_48 ?_
      refine lv_ldc2d (v := 4652007308841189376) hx hb hown (hts (.constantDouble RX1 110 4652007308841189376) (by decide +kernel)) dX1_fit_49 ?_
      refine lv_ddiv hx hb dX1_fit_52 hd ?_
      show W _ _ _ _ _ _ _ _ _ _ _ _ _ _ _ (F0 mm 53 ls (.double (dvT (nI tt)) :: _))
      refine w_dgt (tgt := 67) hx hb dX1_fit_53 dX1_fit_54 (by decide) (fun h53_4 => ?_) (fun h53_4 => ?_)
      · refine lv_iload_n hx hb dX1_fit_67 rfl (lv_at hl 3 rfl) ?_
        have hk9 : KK = k := by rw [← hres]; show (if _ then _ else _) = _; rw [if_neg (by rw [h53_4]; decide)]
        subst hk9
        subst hQ
        exact W.iret hx hb hr (fun t ht hWm => ⟨⟨_, fe, rfl, ⟨rfl, hg_fe⟩, (show va_P D cls2 _ t.heap from by rw [ht]; exact hP)⟩, hS.F ht⟩) hS.2.2 dX1_fit_68
      · refine lv_aload_n hx hb dX1_fit_57 rfl (lv_at hl 0 rfl) ?_
        refine va_callv (va_runV (As := []) (rest := []) S (c_X1_oneRound hn hI hO hg_fe (ho k (by omega)).1 hq) (cwV 0 hts gX1_fit_X1_oneRound rfl rfl rfl hdX1_oneRound ⟨Nat.le_of_ble_eq_true rfl, Nat.le_of_ble_eq_true rfl⟩) (preV hK hP rfl rfl) rfl rfl hl.1 rfl (lv_room (Nat.le_of_ble_eq_true rfl)) dX1_fit_58 ⟨Nat.zero_le _, Nat.zero_le _⟩) hS (fun _ _ h => h) (fun _ h => h) (fun u_5 t H locs ht hvm hw_6 hB hz1 hk1 hS => ?_)
        replace hB : va_P D cls2 _ t.heap := hB
        rw [ht] at hB
        have hP : va_P D cls2 (mW q cI cD (nI 0) (nI n) ((rC + nI k) + nI 1) hh fi fo fw u_5 fr ff fp fl fc) H := hB
        refine lv_iinc (v := nI (k + 1)) (lv' := [(3, .int (nI (k + 1))), (0, .ref (q 0)), (1, .int (nI tt)), (2, .int (nI m))]) hx hb dX1_fit_61 hl (k := 3) rfl (by rw [show Int32.ofInt 1 = nI 1 from by decide, nI_add]) (by decide) rfl (fun ls hl => ?_)
        refine lv_goto (tgt := 31) hx hb dX1_fit_64 (by decide) ?_
        have eq_7 : rC + nI (k + 1) = (rC + nI k) + nI 1 := by first | rfl | exact (nI_addc _ _).symm
        rw [← eq_7] at hP
        have eq_8 : rndK n inf out (k + 1) e = rnd n inf out (rndK n inf out k e) := by first | rfl | exact (nI_addc _ _).symm
        exact ih (k + 1) (by omega) _ _ _ (by rw [eq_8]; exact hw_6) (by rw [← hres]; show _ = if _ then _ else _; rw [if_pos h53_4]; rfl) hP hS ls (lv_sub hl [1, 2, 3, 0] rfl)
  exact lp31 (m - 0) 0 (by omega) _ _ _ hE hKK.symm (by rw [add_nI0]; exact hP) hS ls (lv_sub hl [1, 2, 3, 0] rfl)
set_option maxHeartbeats 4000000 in
set_option maxRecDepth 100000 in
theorem c_X1_fitx1 {l : Launch} {D : va_G} {q : Nat → Nat} {cI cD : ClassId} {th rC : Int32} {hh : Int64} {fi fo fw : Nat → Int32} {fe : Nat → UInt64} {fr : Nat → Int32} {ff : Nat → UInt64} {fp fl fc : Nat → Int32} {n : Nat} (hn : 3 ≤ n ∧ n ≤ 6) {x y : Int32} (hxx : wth x (nI 0) (nI 100000) = false) (hq : qD q) : Met l yX1_fit wsX1_fit rX1_fit (va_Pc [.ref (q 0), .int x, .int y] (wPre D (tys2 cI cD) (mW q cI cD th (nI n) rC hh fi fo fw fe fr ff fp fl fc))) (va_Qi (fun r (u : Unit) => True) (fun u t => va_P D cls2 (mW q cI cD (nI 1) (nI n) rC hh fi fo fw fe fr ff fp fl fc) t.heap) (qA q)) 0 0 (qA q) := by
  refine met_intro (cc := cX1_fit) (maxL := 4) (ret := (some .int)) (own := RX1) (by decide) rfl rfl (Nat.le_of_ble_eq_true rfl) ?_
  intro pp ee ss mm args below meth cd Q ls hQ S hr hlocks hv hB hl
  obtain ⟨hx, hb, hml, hown, hts⟩ := id S
  obtain ⟨hP, hK⟩ := hB
  have in_w : ∀ w ∈ wsX10, w ∈ wsX1_fit := by decide +kernel
  have fl_45 : Cond.fieldLink RX1 45 RX1 (TX1 0).2.1 (TX1 0).2.2.1 ∈ wsX1_fit := by decide +kernel
  have hS : va_S (qA q) ss.heap ss.heap [] := va_S.rf
  generalize hHg : ss.heap = H at hP
  have hS : va_S (qA q) ss.heap H [] := by rw [← hHg]; exact hS
  suffices hgo : ∀ locs : List Loc, va_S (qA q) ss.heap H locs → W pp l ee rX1_fit ss mm args below meth cd H locs 0 0 Q (F0 mm 0 ls []) by
    first | exact hgo [] hS | (rw [hHg]; exact hgo [] hS)
  clear hS
  intro locs hS
  have hl : lv_has ls 4 [(0, .ref (q 0)), (1, .int x), (2, .int y)] := hl
  refine lv_aload_n hx hb dX1_fit_0 rfl (lv_at hl 0 rfl) ?_
  refine lv_iload_n hx hb dX1_fit_1 rfl (lv_at hl 1 rfl) ?_
  refine lv_iconst (v := nI 0) hx hb dX1_fit_2 (by decide) ?_
  refine lv_ldc (v := nI 100000) hx hb hown (hts (.constant RX1 105 (nI 100000)) (by decide +kernel)) dX1_fit_3 ?_
  refine vp_callSi (W.runS (As := [.int x, .int (nI 0), .int (nI 100000)]) (rest := [.ref (q 0)]) S (c_X1_within (v := x) (a := nI 0) (b := nI 100000)) (va_cwS 3 hts gX1_fit_X1_within rfl rfl rfl hdX1_within ⟨Nat.le_of_ble_eq_true rfl, Nat.le_of_ble_eq_true rfl⟩) preS rfl rfl hl.1 rfl (lv_room (Nat.le_of_ble_eq_true rfl)) dX1_fit_5 ⟨Nat.zero_le _, Nat.zero_le _⟩) (fun r_1 er_1 => ?_)
  subst er_1
  refine w_ifBeq (tgt := 25) hx hb dX1_fit_8 (by decide) (fun h8_0 => ?_) (fun h8_0 => absurd (hxx) (by rw [h8_0]; decide))
  refine lv_iconst (v := nI 1) hx hb dX1_fit_25 (by decide) ?_
  refine w_putM (v := .int (nI 1)) (ty := .int) S in_w hK hP (wD_of hq rfl) hS rfl 0 (by decide) fl_45 rfl (by decide +kernel) rfl rfl (Nat.le_of_ble_eq_true rfl) rfl dX1_fit_26 (fun H locs hP hS => ?_)
  have hP : va_P D cls2 (mW q cI cD (nI 1) (nI n) rC hh fi fo fw fe fr ff fp fl fc) H := hP
  refine lv_iconst (v := nI 0) hx hb dX1_fit_29 (by decide) ?_
  refine lv_istore_n (lv' := [(3, .int (nI 0)), (0, .ref (q 0)), (1, .int x), (2, .int y)]) hx hb dX1_fit_30 rfl hl (by decide) rfl (fun ls hl => ?_)
  refine lv_aload_n hx hb dX1_fit_31 rfl (lv_at hl 1 rfl) ?_
  refine w_getM (own := RX1) (v := .int (nI 1)) S in_w hK hP rfl 0 (by decide) fl_45 rfl rfl dX1_fit_32 ?_
  refine lv_if_ne (tgt := 67) hx hb dX1_fit_35 (by decide) (fun h35_1 => ?_) (fun h35_1 => absurd h35_1 (by decide))
  refine lv_iload_n hx hb dX1_fit_67 rfl (lv_at hl 0 rfl) ?_
  subst hQ
  exact W.iret hx hb hr (fun t ht hWm => ⟨⟨_, (), rfl, trivial, (show va_P D cls2 _ t.heap from by rw [ht]; exact hP)⟩, hS.F ht⟩) hS.2.2 dX1_fit_68
set_option maxHeartbeats 4000000 in
set_option maxRecDepth 100000 in
theorem c_X1_fitx2 {l : Launch} {D : va_G} {q : Nat → Nat} {cI cD : ClassId} {th rC : Int32} {hh : Int64} {fi fo fw : Nat → Int32} {fe : Nat → UInt64} {fr : Nat → Int32} {ff : Nat → UInt64} {fp fl fc : Nat → Int32} {n : Nat} (hn : 3 ≤ n ∧ n ≤ 6) {x y : Int32} (hxx : wth x (nI 0) (nI 100000) = true) (hyy : wth y (nI 1) (nI 100) = false) (hq : qD q) : Met l yX1_fit wsX1_fit rX1_fit (va_Pc [.ref (q 0), .int x, .int y] (wPre D (tys2 cI cD) (mW q cI cD th (nI n) rC hh fi fo fw fe fr ff fp fl fc))) (va_Qi (fun r (u : Unit) => True) (fun u t => va_P D cls2 (mW q cI cD (nI 1) (nI n) rC hh fi fo fw fe fr ff fp fl fc) t.heap) (qA q)) 0 0 (qA q) := by
  refine met_intro (cc := cX1_fit) (maxL := 4) (ret := (some .int)) (own := RX1) (by decide) rfl rfl (Nat.le_of_ble_eq_true rfl) ?_
  intro pp ee ss mm args below meth cd Q ls hQ S hr hlocks hv hB hl
  obtain ⟨hx, hb, hml, hown, hts⟩ := id S
  obtain ⟨hP, hK⟩ := hB
  have in_w : ∀ w ∈ wsX10, w ∈ wsX1_fit := by decide +kernel
  have fl_45 : Cond.fieldLink RX1 45 RX1 (TX1 0).2.1 (TX1 0).2.2.1 ∈ wsX1_fit := by decide +kernel
  have hS : va_S (qA q) ss.heap ss.heap [] := va_S.rf
  generalize hHg : ss.heap = H at hP
  have hS : va_S (qA q) ss.heap H [] := by rw [← hHg]; exact hS
  suffices hgo : ∀ locs : List Loc, va_S (qA q) ss.heap H locs → W pp l ee rX1_fit ss mm args below meth cd H locs 0 0 Q (F0 mm 0 ls []) by
    first | exact hgo [] hS | (rw [hHg]; exact hgo [] hS)
  clear hS
  intro locs hS
  have hl : lv_has ls 4 [(0, .ref (q 0)), (1, .int x), (2, .int y)] := hl
  refine lv_aload_n hx hb dX1_fit_0 rfl (lv_at hl 0 rfl) ?_
  refine lv_iload_n hx hb dX1_fit_1 rfl (lv_at hl 1 rfl) ?_
  refine lv_iconst (v := nI 0) hx hb dX1_fit_2 (by decide) ?_
  refine lv_ldc (v := nI 100000) hx hb hown (hts (.constant RX1 105 (nI 100000)) (by decide +kernel)) dX1_fit_3 ?_
  refine vp_callSi (W.runS (As := [.int x, .int (nI 0), .int (nI 100000)]) (rest := [.ref (q 0)]) S (c_X1_within (v := x) (a := nI 0) (b := nI 100000)) (va_cwS 3 hts gX1_fit_X1_within rfl rfl rfl hdX1_within ⟨Nat.le_of_ble_eq_true rfl, Nat.le_of_ble_eq_true rfl⟩) preS rfl rfl hl.1 rfl (lv_room (Nat.le_of_ble_eq_true rfl)) dX1_fit_5 ⟨Nat.zero_le _, Nat.zero_le _⟩) (fun r_1 er_1 => ?_)
  subst er_1
  refine w_ifBeq (tgt := 25) hx hb dX1_fit_8 (by decide) (fun h8_0 => absurd (hxx) (by rw [h8_0]; decide)) (fun h8_0 => ?_)
  refine lv_iload_n hx hb dX1_fit_11 rfl (lv_at hl 2 rfl) ?_
  refine lv_iconst (v := nI 1) hx hb dX1_fit_12 (by decide) ?_
  refine lv_bipush (v := nI 100) hx hb dX1_fit_13 (by decide) ?_
  refine vp_callSi (W.runS (As := [.int y, .int (nI 1), .int (nI 100)]) (rest := [.ref (q 0)]) S (c_X1_within (v := y) (a := nI 1) (b := nI 100)) (va_cwS 3 hts gX1_fit_X1_within rfl rfl rfl hdX1_within ⟨Nat.le_of_ble_eq_true rfl, Nat.le_of_ble_eq_true rfl⟩) preS rfl rfl hl.1 rfl (lv_room (Nat.le_of_ble_eq_true rfl)) dX1_fit_15 ⟨Nat.zero_le _, Nat.zero_le _⟩) (fun r_2 er_2 => ?_)
  subst er_2
  refine w_ifBeq (tgt := 25) hx hb dX1_fit_18 (by decide) (fun h18_1 => ?_) (fun h18_1 => absurd (hyy) (by rw [h18_1]; decide))
  refine lv_iconst (v := nI 1) hx hb dX1_fit_25 (by decide) ?_
  refine w_putM (v := .int (nI 1)) (ty := .int) S in_w hK hP (wD_of hq rfl) hS rfl 0 (by decide) fl_45 rfl (by decide +kernel) rfl rfl (Nat.le_of_ble_eq_true rfl) rfl dX1_fit_26 (fun H locs hP hS => ?_)
  have hP : va_P D cls2 (mW q cI cD (nI 1) (nI n) rC hh fi fo fw fe fr ff fp fl fc) H := hP
  refine lv_iconst (v := nI 0) hx hb dX1_fit_29 (by decide) ?_
  refine lv_istore_n (lv' := [(3, .int (nI 0)), (0, .ref (q 0)), (1, .int x), (2, .int y)]) hx hb dX1_fit_30 rfl hl (by decide) rfl (fun ls hl => ?_)
  refine lv_aload_n hx hb dX1_fit_31 rfl (lv_at hl 1 rfl) ?_
  refine w_getM (own := RX1) (v := .int (nI 1)) S in_w hK hP rfl 0 (by decide) fl_45 rfl rfl dX1_fit_32 ?_
  refine lv_if_ne (tgt := 67) hx hb dX1_fit_35 (by decide) (fun h35_2 => ?_) (fun h35_2 => absurd h35_2 (by decide))
  refine lv_iload_n hx hb dX1_fit_67 rfl (lv_at hl 0 rfl) ?_
  subst hQ
  exact W.iret hx hb hr (fun t ht hWm => ⟨⟨_, (), rfl, trivial, (show va_P D cls2 _ t.heap from by rw [ht]; exact hP)⟩, hS.F ht⟩) hS.2.2 dX1_fit_68
abbrev rX1_reset : Room := { frames := 1, cells := 0, slots := 0, locals := 21 }
theorem hdX1_reset : yX1_reset.cls = RX1 ∧ yX1_reset.cls ≠ "java/lang/invoke/MethodHandle" ∧ yX1_reset.cls ≠ "java/lang/invoke/VarHandle" ∧ (parseMethodDescriptor yX1_reset.desc).map (fun d => d.parameters.length) = some 0 := by decide +kernel
set_option maxHeartbeats 4000000 in
set_option maxRecDepth 100000 in
theorem c_X1_reset {l : Launch} {D : va_G} {q : Nat → Nat} {cI cD : ClassId} {th rC : Int32} {hh : Int64} {fi fo fw : Nat → Int32} {fe : Nat → UInt64} {fr : Nat → Int32} {ff : Nat → UInt64} {fp fl fc : Nat → Int32} {n : Nat} (hn : 3 ≤ n ∧ n ≤ 6) {w : Nat → Nat → Int32} (hW : ag2 n fw w)  (hq : qD q) : Met l yX1_reset wsX1_reset rX1_reset (va_Pc [.ref (q 0)] (wPre D (tys2 cI cD) (mW q cI cD th (nI n) rC hh fi fo fw fe fr ff fp fl fc))) (va_Qi (fun r (u : Nat → UInt64) => r = rC ∧ ag2 n u (lay w)) (fun u t => va_P D cls2 (mW q cI cD (nI 0) (nI n) (nI 0) hh fi fo fw u fr ff fp fl fc) t.heap) (qA q)) 0 0 (qA q) := by
  refine met_intro (cc := cX1_reset) (maxL := 2) (ret := (some .int)) (own := RX1) (by decide) rfl rfl (Nat.le_of_ble_eq_true rfl) ?_
  intro pp ee ss mm args below meth cd Q ls hQ S hr hlocks hv hB hl
  obtain ⟨hx, hb, hml, hown, hts⟩ := id S
  obtain ⟨hP, hK⟩ := hB
  have in_w : ∀ w ∈ wsX10, w ∈ wsX1_reset := by decide +kernel
  have fl_45 : Cond.fieldLink RX1 45 RX1 (TX1 0).2.1 (TX1 0).2.2.1 ∈ wsX1_reset := by decide +kernel
  have fl_52 : Cond.fieldLink RX1 52 RX1 (TX1 6).2.1 (TX1 6).2.2.1 ∈ wsX1_reset := by decide +kernel
  have hS : va_S (qA q) ss.heap ss.heap [] := va_S.rf
  generalize hHg : ss.heap = H at hP
  have hS : va_S (qA q) ss.heap H [] := by rw [← hHg]; exact hS
  suffices hgo : ∀ locs : List Loc, va_S (qA q) ss.heap H locs → W pp l ee rX1_reset ss mm args below meth cd H locs 0 0 Q (F0 mm 0 ls []) by
    first | exact hgo [] hS | (rw [hHg]; exact hgo [] hS)
  clear hS
  intro locs hS
  have hl : lv_has ls 2 [(0, .ref (q 0))] := hl
  refine lv_aload_n hx hb dX1_reset_0 rfl (lv_at hl 0 rfl) ?_
  refine lv_iconst (v := nI 0) hx hb dX1_reset_1 (by decide) ?_
  refine w_putM (v := .int (nI 0)) (ty := .int) S in_w hK hP (wD_of hq rfl) hS rfl 0 (by decide) fl_45 rfl (by decide +kernel) rfl rfl (Nat.le_of_ble_eq_true rfl) rfl dX1_reset_2 (fun H locs hP hS => ?_)
  have hP : va_P D cls2 (mW q cI cD (nI 0) (nI n) rC hh fi fo fw fe fr ff fp fl fc) H := hP
  refine lv_aload_n hx hb dX1_reset_5 rfl (lv_at hl 0 rfl) ?_
  refine w_getM (own := RX1) (v := .int rC) S in_w hK hP rfl 6 (by decide) fl_52 rfl rfl dX1_reset_6 ?_
  refine lv_istore_n (lv' := [(1, .int rC), (0, .ref (q 0))]) hx hb dX1_reset_9 rfl hl (by decide) rfl (fun ls hl => ?_)
  refine lv_aload_n hx hb dX1_reset_10 rfl (lv_at hl 1 rfl) ?_
  refine va_callv (va_runV (As := []) (rest := []) S (c_X1_layWeights hq) (cwV 0 hts gX1_reset_X1_layWeights rfl rfl rfl hdX1_layWeights ⟨Nat.le_of_ble_eq_true rfl, Nat.le_of_ble_eq_true rfl⟩) (preV hK hP rfl rfl) rfl rfl hl.1 rfl (lv_room (Nat.le_of_ble_eq_true rfl)) dX1_reset_11 ⟨Nat.zero_le _, Nat.zero_le _⟩) hS (fun _ _ h => h) (fun _ h => h) (fun u_2 t H locs ht hvm hw_3 hB hz1 hk1 hS => ?_)
  replace hB : va_P D cls2 _ t.heap := hB
  rw [ht] at hB
  subst hw_3
  have hP : va_P D cls2 (mW q cI cD (nI 0) (nI n) (nI 0) hh fi fo fw (lwR fw 36 fe) fr ff fp fl fc) H := hB
  refine lv_iload_n hx hb dX1_reset_14 rfl (lv_at hl 0 rfl) ?_
  subst hQ
  exact W.iret hx hb hr (fun t ht hWm => ⟨⟨_, lwR fw 36 fe, rfl, ⟨rfl, (lwR_ag hn.2 hW)⟩, (show va_P D cls2 _ t.heap from by rw [ht]; exact hP)⟩, hS.F ht⟩) hS.2.2 dX1_reset_15
abbrev rX1_estimate : Room := { frames := 3, cells := 0, slots := 0, locals := 65 }
theorem hdX1_estimate : yX1_estimate.cls = RX1 ∧ yX1_estimate.cls ≠ "java/lang/invoke/MethodHandle" ∧ yX1_estimate.cls ≠ "java/lang/invoke/VarHandle" ∧ (parseMethodDescriptor yX1_estimate.desc).map (fun d => d.parameters.length) = some 2 := by decide +kernel
set_option maxHeartbeats 4000000 in
set_option maxRecDepth 100000 in
theorem c_X1_estimate {l : Launch} {D : va_G} {q : Nat → Nat} {cI cD : ClassId} {th rC : Int32} {hh : Int64} {fi fo fw : Nat → Int32} {fe : Nat → UInt64} {fr : Nat → Int32} {ff : Nat → UInt64} {fp fl fc : Nat → Int32} {n : Nat} (hn : 3 ≤ n ∧ n ≤ 6) {e : Nat → Nat → UInt64} (hE : ag2 n fe e) {i k : Nat} (hi : i < n) (hk : k < n)  (hq : qD q) : Met l yX1_estimate wsX1_estimate rX1_estimate (va_Pc [.ref (q 0), .int (nI i), .int (nI k)] (wPre D (tys2 cI cD) (mW q cI cD th (nI n) rC hh fi fo fw fe fr ff fp fl fc))) (va_Qd (fun r (u : Unit) => r = e i k) (fun u t => va_P D cls2 (mW q cI cD (nI 0) (nI n) rC hh fi fo fw fe fr ff fp fl fc) t.heap) (qA q)) 0 0 (qA q) := by
  refine met_intro (cc := cX1_estimate) (maxL := 3) (ret := (some .double)) (own := RX1) (by decide) rfl rfl (Nat.le_of_ble_eq_true rfl) ?_
  intro pp ee ss mm args below meth cd Q ls hQ S hr hlocks hv hB hl
  obtain ⟨hx, hb, hml, hown, hts⟩ := id S
  obtain ⟨hP, hK⟩ := hB
  have in_w : ∀ w ∈ wsX10, w ∈ wsX1_estimate := by decide +kernel
  have fl_23 : Cond.fieldLink RX1 23 RX1 (TX1 5).2.1 (TX1 5).2.2.1 ∈ wsX1_estimate := by decide +kernel
  have fl_45 : Cond.fieldLink RX1 45 RX1 (TX1 0).2.1 (TX1 0).2.2.1 ∈ wsX1_estimate := by decide +kernel
  have hS : va_S (qA q) ss.heap ss.heap [] := va_S.rf
  generalize hHg : ss.heap = H at hP
  have hS : va_S (qA q) ss.heap H [] := by rw [← hHg]; exact hS
  suffices hgo : ∀ locs : List Loc, va_S (qA q) ss.heap H locs → W pp l ee rX1_estimate ss mm args below meth cd H locs 0 0 Q (F0 mm 0 ls []) by
    first | exact hgo [] hS | (rw [hHg]; exact hgo [] hS)
  clear hS
  intro locs hS
  have hl : lv_has ls 3 [(0, .ref (q 0)), (1, .int (nI i)), (2, .int (nI k))] := hl
  refine lv_aload_n hx hb dX1_estimate_0 rfl (lv_at hl 0 rfl) ?_
  refine lv_aload_n hx hb dX1_estimate_1 rfl (lv_at hl 0 rfl) ?_
  refine lv_iload_n hx hb dX1_estimate_2 rfl (lv_at hl 1 rfl) ?_
  refine lv_iload_n hx hb dX1_estimate_3 rfl (lv_at hl 2 rfl) ?_
  refine vp_callSi (W.runV (As := [.int (nI i), .int (nI k)]) (rest := [.ref (q 0)]) S (c_X1_areArms (x := nI i) (y := nI k)) (cwV 2 hts gX1_estimate_X1_areArms rfl rfl rfl hdX1_areArms ⟨Nat.le_of_ble_eq_true rfl, Nat.le_of_ble_eq_true rfl⟩) (preV hK hP rfl rfl) rfl rfl hl.1 rfl (lv_room (Nat.le_of_ble_eq_true rfl)) dX1_estimate_4 ⟨Nat.zero_le _, Nat.zero_le _⟩) (fun r_1 er_1 => ?_)
  subst er_1
  refine w_ifBeq (tgt := 14) hx hb dX1_estimate_7 (by decide) (fun h7_0 => absurd ((armB2_t hn hi hk)) (by rw [h7_0]; decide)) (fun h7_0 => ?_)
  refine lv_iconst (v := nI 0) hx hb dX1_estimate_10 (by decide) ?_
  refine lv_goto (tgt := 15) hx hb dX1_estimate_11 (by decide) ?_
  refine w_putM (v := .int (nI 0)) (ty := .int) S in_w hK hP (wD_of hq rfl) hS rfl 0 (by decide) fl_45 rfl (by decide +kernel) rfl rfl (Nat.le_of_ble_eq_true rfl) rfl dX1_estimate_15 (fun H locs hP hS => ?_)
  have hP : va_P D cls2 (mW q cI cD (nI 0) (nI n) rC hh fi fo fw fe fr ff fp fl fc) H := hP
  refine lv_aload_n hx hb dX1_estimate_18 rfl (lv_at hl 0 rfl) ?_
  refine w_getM (own := RX1) (v := .int (nI 0)) S in_w hK hP rfl 0 (by decide) fl_45 rfl rfl dX1_estimate_19 ?_
  refine lv_if_le (tgt := 29) hx hb dX1_estimate_22 (by decide) (fun h22_1 => ?_) (fun h22_1 => absurd (by decide) h22_1)
  refine lv_aload_n hx hb dX1_estimate_29 rfl (lv_at hl 0 rfl) ?_
  refine w_getM (own := RX1) (v := .ref (q 4)) S in_w hK hP rfl 5 (by decide) fl_23 rfl rfl dX1_estimate_30 ?_
  refine lv_bipush (v := nI 6) hx hb dX1_estimate_33 (by decide) ?_
  refine lv_iload_n hx hb dX1_estimate_35 rfl (lv_at hl 1 rfl) ?_
  refine w_imulL (N := 6) (y := 0) hx hb rfl dX1_estimate_36 ?_
  refine lv_iload_n hx hb dX1_estimate_37 rfl (lv_at hl 2 rfl) ?_
  refine w_iadd hx hb dX1_estimate_38 ?_
  refine w_dald hx hb hK hP 4 1 rfl rfl (j := 6 * i + k) (v := e i k) (hE i k (by omega) (by omega)) (by omega) (by decide) dX1_estimate_39 ?_
  subst hQ
  exact W.dret hx hb hr (fun t ht hWm => ⟨⟨_, (), rfl, rfl, (show va_P D cls2 _ t.heap from by rw [ht]; exact hP)⟩, hS.F ht⟩) hS.2.2 dX1_estimate_40
set_option maxHeartbeats 4000000 in
set_option maxRecDepth 100000 in
theorem c_X1_estimatex {l : Launch} {D : va_G} {q : Nat → Nat} {cI cD : ClassId} {th rC : Int32} {hh : Int64} {fi fo fw : Nat → Int32} {fe : Nat → UInt64} {fr : Nat → Int32} {ff : Nat → UInt64} {fp fl fc : Nat → Int32} {n : Nat} (hn : 3 ≤ n ∧ n ≤ 6) {x y : Int32} (hxx : (armB n x && armB n y) = false) (hq : qD q) : Met l yX1_estimate wsX1_estimate rX1_estimate (va_Pc [.ref (q 0), .int x, .int y] (wPre D (tys2 cI cD) (mW q cI cD th (nI n) rC hh fi fo fw fe fr ff fp fl fc))) (va_Qd (fun r (u : Unit) => True) (fun u t => va_P D cls2 (mW q cI cD (nI 1) (nI n) rC hh fi fo fw fe fr ff fp fl fc) t.heap) (qA q)) 0 0 (qA q) := by
  refine met_intro (cc := cX1_estimate) (maxL := 3) (ret := (some .double)) (own := RX1) (by decide) rfl rfl (Nat.le_of_ble_eq_true rfl) ?_
  intro pp ee ss mm args below meth cd Q ls hQ S hr hlocks hv hB hl
  obtain ⟨hx, hb, hml, hown, hts⟩ := id S
  obtain ⟨hP, hK⟩ := hB
  have in_w : ∀ w ∈ wsX10, w ∈ wsX1_estimate := by decide +kernel
  have fl_45 : Cond.fieldLink RX1 45 RX1 (TX1 0).2.1 (TX1 0).2.2.1 ∈ wsX1_estimate := by decide +kernel
  have hS : va_S (qA q) ss.heap ss.heap [] := va_S.rf
  generalize hHg : ss.heap = H at hP
  have hS : va_S (qA q) ss.heap H [] := by rw [← hHg]; exact hS
  suffices hgo : ∀ locs : List Loc, va_S (qA q) ss.heap H locs → W pp l ee rX1_estimate ss mm args below meth cd H locs 0 0 Q (F0 mm 0 ls []) by
    first | exact hgo [] hS | (rw [hHg]; exact hgo [] hS)
  clear hS
  intro locs hS
  have hl : lv_has ls 3 [(0, .ref (q 0)), (1, .int x), (2, .int y)] := hl
  refine lv_aload_n hx hb dX1_estimate_0 rfl (lv_at hl 0 rfl) ?_
  refine lv_aload_n hx hb dX1_estimate_1 rfl (lv_at hl 0 rfl) ?_
  refine lv_iload_n hx hb dX1_estimate_2 rfl (lv_at hl 1 rfl) ?_
  refine lv_iload_n hx hb dX1_estimate_3 rfl (lv_at hl 2 rfl) ?_
  refine vp_callSi (W.runV (As := [.int x, .int y]) (rest := [.ref (q 0)]) S (c_X1_areArms (x := x) (y := y)) (cwV 2 hts gX1_estimate_X1_areArms rfl rfl rfl hdX1_areArms ⟨Nat.le_of_ble_eq_true rfl, Nat.le_of_ble_eq_true rfl⟩) (preV hK hP rfl rfl) rfl rfl hl.1 rfl (lv_room (Nat.le_of_ble_eq_true rfl)) dX1_estimate_4 ⟨Nat.zero_le _, Nat.zero_le _⟩) (fun r_1 er_1 => ?_)
  subst er_1
  refine w_ifBeq (tgt := 14) hx hb dX1_estimate_7 (by decide) (fun h7_0 => ?_) (fun h7_0 => absurd (hxx) (by rw [h7_0]; decide))
  refine lv_iconst (v := nI 1) hx hb dX1_estimate_14 (by decide) ?_
  refine w_putM (v := .int (nI 1)) (ty := .int) S in_w hK hP (wD_of hq rfl) hS rfl 0 (by decide) fl_45 rfl (by decide +kernel) rfl rfl (Nat.le_of_ble_eq_true rfl) rfl dX1_estimate_15 (fun H locs hP hS => ?_)
  have hP : va_P D cls2 (mW q cI cD (nI 1) (nI n) rC hh fi fo fw fe fr ff fp fl fc) H := hP
  refine lv_aload_n hx hb dX1_estimate_18 rfl (lv_at hl 0 rfl) ?_
  refine w_getM (own := RX1) (v := .int (nI 1)) S in_w hK hP rfl 0 (by decide) fl_45 rfl rfl dX1_estimate_19 ?_
  refine lv_if_le (tgt := 29) hx hb dX1_estimate_22 (by decide) (fun h22_1 => absurd h22_1 (by decide)) (fun h22_1 => ?_)
  refine lv_dconst0 hx hb dX1_estimate_25 ?_
  refine lv_goto (tgt := 40) hx hb dX1_estimate_26 (by decide) ?_
  subst hQ
  exact W.dret hx hb hr (fun t ht hWm => ⟨⟨_, (), rfl, trivial, (show va_P D cls2 _ t.heap from by rw [ht]; exact hP)⟩, hS.F ht⟩) hS.2.2 dX1_estimate_40
abbrev rX1_sum : Room := { frames := 2, cells := 0, slots := 0, locals := 43 }
theorem hdX1_sum : yX1_sum.cls = RX1 ∧ yX1_sum.cls ≠ "java/lang/invoke/MethodHandle" ∧ yX1_sum.cls ≠ "java/lang/invoke/VarHandle" ∧ (parseMethodDescriptor yX1_sum.desc).map (fun d => d.parameters.length) = some 2 := by decide +kernel
set_option maxHeartbeats 4000000 in
set_option maxRecDepth 100000 in
theorem c_X1_sum {l : Launch} {D : va_G} {q : Nat → Nat} {cI cD : ClassId} {th rC : Int32} {hh : Int64} {fi fo fw : Nat → Int32} {fe : Nat → UInt64} {fr : Nat → Int32} {ff : Nat → UInt64} {fp fl fc : Nat → Int32} {n : Nat} (hn : 3 ≤ n ∧ n ≤ 6) {e : Nat → Nat → UInt64} (hE : ag2 n fe e) {i : Nat} {cb : Bool} (hi : i < n) (ho : okR e n i ∧ okC e n i) (hq : qD q) : Met l yX1_sum wsX1_sum rX1_sum (va_Pc [.ref (q 0), .int (nI i), .int (bI cb)] (wPre D (tys2 cI cD) (mW q cI cD th (nI n) rC hh fi fo fw fe fr ff fp fl fc))) (va_Qd (fun r (u : Unit) => r = if cb = true then colS e n i else rowS e n i) (fun u t => va_P D cls2 (mW q cI cD (nI 0) (nI n) rC hh fi fo fw fe fr ff fp fl fc) t.heap) (qA q)) 0 0 (qA q) := by
  refine met_intro (cc := cX1_sum) (maxL := 3) (ret := (some .double)) (own := RX1) (by decide) rfl rfl (Nat.le_of_ble_eq_true rfl) ?_
  intro pp ee ss mm args below meth cd Q ls hQ S hr hlocks hv hB hl
  obtain ⟨hx, hb, hml, hown, hts⟩ := id S
  obtain ⟨hP, hK⟩ := hB
  have in_w : ∀ w ∈ wsX10, w ∈ wsX1_sum := by decide +kernel
  have fl_45 : Cond.fieldLink RX1 45 RX1 (TX1 0).2.1 (TX1 0).2.2.1 ∈ wsX1_sum := by decide +kernel
  have hS : va_S (qA q) ss.heap ss.heap [] := va_S.rf
  generalize hHg : ss.heap = H at hP
  have hS : va_S (qA q) ss.heap H [] := by rw [← hHg]; exact hS
  suffices hgo : ∀ locs : List Loc, va_S (qA q) ss.heap H locs → W pp l ee rX1_sum ss mm args below meth cd H locs 0 0 Q (F0 mm 0 ls []) by
    first | exact hgo [] hS | (rw [hHg]; exact hgo [] hS)
  clear hS
  intro locs hS
  have hl : lv_has ls 3 [(0, .ref (q 0)), (1, .int (nI i)), (2, .int (bI cb))] := hl
  refine lv_aload_n hx hb dX1_sum_0 rfl (lv_at hl 0 rfl) ?_
  refine lv_aload_n hx hb dX1_sum_1 rfl (lv_at hl 0 rfl) ?_
  refine lv_iload_n hx hb dX1_sum_2 rfl (lv_at hl 1 rfl) ?_
  refine vp_callSi (W.runV (As := [.int (nI i)]) (rest := [.ref (q 0)]) S (c_X1_isArm (x := nI i)) (cwV 1 hts gX1_sum_X1_isArm rfl rfl rfl hdX1_isArm ⟨Nat.le_of_ble_eq_true rfl, Nat.le_of_ble_eq_true rfl⟩) (preV hK hP rfl rfl) rfl rfl hl.1 rfl (lv_room (Nat.le_of_ble_eq_true rfl)) dX1_sum_3 ⟨Nat.zero_le _, Nat.zero_le _⟩) (fun r_1 er_1 => ?_)
  subst er_1
  refine w_ifBeq (tgt := 13) hx hb dX1_sum_6 (by decide) (fun h6_0 => absurd ((armB_t hn hi)) (by rw [h6_0]; decide)) (fun h6_0 => ?_)
  refine lv_iconst (v := nI 0) hx hb dX1_sum_9 (by decide) ?_
  refine lv_goto (tgt := 14) hx hb dX1_sum_10 (by decide) ?_
  refine w_putM (v := .int (nI 0)) (ty := .int) S in_w hK hP (wD_of hq rfl) hS rfl 0 (by decide) fl_45 rfl (by decide +kernel) rfl rfl (Nat.le_of_ble_eq_true rfl) rfl dX1_sum_14 (fun H locs hP hS => ?_)
  have hP : va_P D cls2 (mW q cI cD (nI 0) (nI n) rC hh fi fo fw fe fr ff fp fl fc) H := hP
  refine lv_aload_n hx hb dX1_sum_17 rfl (lv_at hl 0 rfl) ?_
  refine w_getM (own := RX1) (v := .int (nI 0)) S in_w hK hP rfl 0 (by decide) fl_45 rfl rfl dX1_sum_18 ?_
  refine lv_if_le (tgt := 28) hx hb dX1_sum_21 (by decide) (fun h21_1 => ?_) (fun h21_1 => absurd (by decide) h21_1)
  refine lv_iload_n hx hb dX1_sum_28 rfl (lv_at hl 2 rfl) ?_
  refine w_ifBeq (tgt := 40) hx hb dX1_sum_29 (by decide) (fun h29_2 => ?_) (fun h29_2 => ?_)
  · refine lv_aload_n hx hb dX1_sum_40 rfl (lv_at hl 0 rfl) ?_
    refine lv_iload_n hx hb dX1_sum_41 rfl (lv_at hl 1 rfl) ?_
    refine vp_callSd (W.runV (As := [.int (nI i)]) (rest := []) S (c_X1_rowSum hn hE (i := i) (by omega) ho.1) (cwV 1 hts gX1_sum_X1_rowSum rfl rfl rfl hdX1_rowSum ⟨Nat.le_of_ble_eq_true rfl, Nat.le_of_ble_eq_true rfl⟩) (preV hK hP rfl rfl) rfl rfl hl.1 rfl (lv_room (Nat.le_of_ble_eq_true rfl)) dX1_sum_42 ⟨Nat.zero_le _, Nat.zero_le _⟩) (fun r_2 er_2 => ?_)
    subst er_2
    subst hQ
    exact W.dret hx hb hr (fun t ht hWm => ⟨⟨_, (), rfl, (by rw [h29_2]; rfl), (show va_P D cls2 _ t.heap from by rw [ht]; exact hP)⟩, hS.F ht⟩) hS.2.2 dX1_sum_45
  · refine lv_aload_n hx hb dX1_sum_32 rfl (lv_at hl 0 rfl) ?_
    refine lv_iload_n hx hb dX1_sum_33 rfl (lv_at hl 1 rfl) ?_
    refine vp_callSd (W.runV (As := [.int (nI i)]) (rest := []) S (c_X1_columnSum hn hE (i := i) (by omega) ho.2) (cwV 1 hts gX1_sum_X1_columnSum rfl rfl rfl hdX1_columnSum ⟨Nat.le_of_ble_eq_true rfl, Nat.le_of_ble_eq_true rfl⟩) (preV hK hP rfl rfl) rfl rfl hl.1 rfl (lv_room (Nat.le_of_ble_eq_true rfl)) dX1_sum_34 ⟨Nat.zero_le _, Nat.zero_le _⟩) (fun r_3 er_3 => ?_)
    subst er_3
    refine lv_goto (tgt := 45) hx hb dX1_sum_37 (by decide) ?_
    subst hQ
    exact W.dret hx hb hr (fun t ht hWm => ⟨⟨_, (), rfl, (by rw [h29_2]; rfl), (show va_P D cls2 _ t.heap from by rw [ht]; exact hP)⟩, hS.F ht⟩) hS.2.2 dX1_sum_45
set_option maxHeartbeats 4000000 in
set_option maxRecDepth 100000 in
theorem c_X1_sumx {l : Launch} {D : va_G} {q : Nat → Nat} {cI cD : ClassId} {th rC : Int32} {hh : Int64} {fi fo fw : Nat → Int32} {fe : Nat → UInt64} {fr : Nat → Int32} {ff : Nat → UInt64} {fp fl fc : Nat → Int32} {n : Nat} (hn : 3 ≤ n ∧ n ≤ 6) {x y : Int32} (hxx : armB n x = false) (hq : qD q) : Met l yX1_sum wsX1_sum rX1_sum (va_Pc [.ref (q 0), .int x, .int y] (wPre D (tys2 cI cD) (mW q cI cD th (nI n) rC hh fi fo fw fe fr ff fp fl fc))) (va_Qd (fun r (u : Unit) => True) (fun u t => va_P D cls2 (mW q cI cD (nI 1) (nI n) rC hh fi fo fw fe fr ff fp fl fc) t.heap) (qA q)) 0 0 (qA q) := by
  refine met_intro (cc := cX1_sum) (maxL := 3) (ret := (some .double)) (own := RX1) (by decide) rfl rfl (Nat.le_of_ble_eq_true rfl) ?_
  intro pp ee ss mm args below meth cd Q ls hQ S hr hlocks hv hB hl
  obtain ⟨hx, hb, hml, hown, hts⟩ := id S
  obtain ⟨hP, hK⟩ := hB
  have in_w : ∀ w ∈ wsX10, w ∈ wsX1_sum := by decide +kernel
  have fl_45 : Cond.fieldLink RX1 45 RX1 (TX1 0).2.1 (TX1 0).2.2.1 ∈ wsX1_sum := by decide +kernel
  have hS : va_S (qA q) ss.heap ss.heap [] := va_S.rf
  generalize hHg : ss.heap = H at hP
  have hS : va_S (qA q) ss.heap H [] := by rw [← hHg]; exact hS
  suffices hgo : ∀ locs : List Loc, va_S (qA q) ss.heap H locs → W pp l ee rX1_sum ss mm args below meth cd H locs 0 0 Q (F0 mm 0 ls []) by
    first | exact hgo [] hS | (rw [hHg]; exact hgo [] hS)
  clear hS
  intro locs hS
  have hl : lv_has ls 3 [(0, .ref (q 0)), (1, .int x), (2, .int y)] := hl
  refine lv_aload_n hx hb dX1_sum_0 rfl (lv_at hl 0 rfl) ?_
  refine lv_aload_n hx hb dX1_sum_1 rfl (lv_at hl 0 rfl) ?_
  refine lv_iload_n hx hb dX1_sum_2 rfl (lv_at hl 1 rfl) ?_
  refine vp_callSi (W.runV (As := [.int x]) (rest := [.ref (q 0)]) S (c_X1_isArm (x := x)) (cwV 1 hts gX1_sum_X1_isArm rfl rfl rfl hdX1_isArm ⟨Nat.le_of_ble_eq_true rfl, Nat.le_of_ble_eq_true rfl⟩) (preV hK hP rfl rfl) rfl rfl hl.1 rfl (lv_room (Nat.le_of_ble_eq_true rfl)) dX1_sum_3 ⟨Nat.zero_le _, Nat.zero_le _⟩) (fun r_1 er_1 => ?_)
  subst er_1
  refine w_ifBeq (tgt := 13) hx hb dX1_sum_6 (by decide) (fun h6_0 => ?_) (fun h6_0 => absurd (hxx) (by rw [h6_0]; decide))
  refine lv_iconst (v := nI 1) hx hb dX1_sum_13 (by decide) ?_
  refine w_putM (v := .int (nI 1)) (ty := .int) S in_w hK hP (wD_of hq rfl) hS rfl 0 (by decide) fl_45 rfl (by decide +kernel) rfl rfl (Nat.le_of_ble_eq_true rfl) rfl dX1_sum_14 (fun H locs hP hS => ?_)
  have hP : va_P D cls2 (mW q cI cD (nI 1) (nI n) rC hh fi fo fw fe fr ff fp fl fc) H := hP
  refine lv_aload_n hx hb dX1_sum_17 rfl (lv_at hl 0 rfl) ?_
  refine w_getM (own := RX1) (v := .int (nI 1)) S in_w hK hP rfl 0 (by decide) fl_45 rfl rfl dX1_sum_18 ?_
  refine lv_if_le (tgt := 28) hx hb dX1_sum_21 (by decide) (fun h21_1 => absurd h21_1 (by decide)) (fun h21_1 => ?_)
  refine lv_dconst0 hx hb dX1_sum_24 ?_
  refine lv_goto (tgt := 45) hx hb dX1_sum_25 (by decide) ?_
  subst hQ
  exact W.dret hx hb hr (fun t ht hWm => ⟨⟨_, (), rfl, trivial, (show va_P D cls2 _ t.heap from by rw [ht]; exact hP)⟩, hS.F ht⟩) hS.2.2 dX1_sum_45
abbrev rX1_share : Room := { frames := 3, cells := 0, slots := 0, locals := 65 }
theorem hdX1_share : yX1_share.cls = RX1 ∧ yX1_share.cls ≠ "java/lang/invoke/MethodHandle" ∧ yX1_share.cls ≠ "java/lang/invoke/VarHandle" ∧ (parseMethodDescriptor yX1_share.desc).map (fun d => d.parameters.length) = some 2 := by decide +kernel
set_option maxHeartbeats 4000000 in
set_option maxRecDepth 100000 in
theorem c_X1_share {l : Launch} {D : va_G} {q : Nat → Nat} {cI cD : ClassId} {th rC : Int32} {hh : Int64} {fi fo fw : Nat → Int32} {fe : Nat → UInt64} {fr : Nat → Int32} {ff : Nat → UInt64} {fp fl fc : Nat → Int32} {n : Nat} (hn : 3 ≤ n ∧ n ≤ 6) {e : Nat → Nat → UInt64} (hE : ag2 n fe e) {i k : Nat} (hi : i < n) (hk : k < n) (ho : okR e n i) (hd : dgt (rowS e n i) FP.dconst0 = true → vf_n64 (FP.ddiv (e i k) (rowS e n i))) (hq : qD q) : Met l yX1_share wsX1_share rX1_share (va_Pc [.ref (q 0), .int (nI i), .int (nI k)] (wPre D (tys2 cI cD) (mW q cI cD th (nI n) rC hh fi fo fw fe fr ff fp fl fc))) (va_Qd (fun r (u : Unit) => r = shr n e i k) (fun u t => va_P D cls2 (mW q cI cD (nI 0) (nI n) rC hh fi fo fw fe fr ff fp fl fc) t.heap) (qA q)) 0 0 (qA q) := by
  refine met_intro (cc := cX1_share) (maxL := 3) (ret := (some .double)) (own := RX1) (by decide) rfl rfl (Nat.le_of_ble_eq_true rfl) ?_
  intro pp ee ss mm args below meth cd Q ls hQ S hr hlocks hv hB hl
  obtain ⟨hx, hb, hml, hown, hts⟩ := id S
  obtain ⟨hP, hK⟩ := hB
  have in_w : ∀ w ∈ wsX10, w ∈ wsX1_share := by decide +kernel
  have fl_23 : Cond.fieldLink RX1 23 RX1 (TX1 5).2.1 (TX1 5).2.2.1 ∈ wsX1_share := by decide +kernel
  have fl_45 : Cond.fieldLink RX1 45 RX1 (TX1 0).2.1 (TX1 0).2.2.1 ∈ wsX1_share := by decide +kernel
  have hS : va_S (qA q) ss.heap ss.heap [] := va_S.rf
  generalize hHg : ss.heap = H at hP
  have hS : va_S (qA q) ss.heap H [] := by rw [← hHg]; exact hS
  suffices hgo : ∀ locs : List Loc, va_S (qA q) ss.heap H locs → W pp l ee rX1_share ss mm args below meth cd H locs 0 0 Q (F0 mm 0 ls []) by
    first | exact hgo [] hS | (rw [hHg]; exact hgo [] hS)
  clear hS
  intro locs hS
  have hl : lv_has ls 3 [(0, .ref (q 0)), (1, .int (nI i)), (2, .int (nI k))] := hl
  refine lv_aload_n hx hb dX1_share_0 rfl (lv_at hl 0 rfl) ?_
  refine lv_aload_n hx hb dX1_share_1 rfl (lv_at hl 0 rfl) ?_
  refine lv_iload_n hx hb dX1_share_2 rfl (lv_at hl 1 rfl) ?_
  refine lv_iload_n hx hb dX1_share_3 rfl (lv_at hl 2 rfl) ?_
  refine vp_callSi (W.runV (As := [.int (nI i), .int (nI k)]) (rest := [.ref (q 0)]) S (c_X1_areArms (x := nI i) (y := nI k)) (cwV 2 hts gX1_share_X1_areArms rfl rfl rfl hdX1_areArms ⟨Nat.le_of_ble_eq_true rfl, Nat.le_of_ble_eq_true rfl⟩) (preV hK hP rfl rfl) rfl rfl hl.1 rfl (lv_room (Nat.le_of_ble_eq_true rfl)) dX1_share_4 ⟨Nat.zero_le _, Nat.zero_le _⟩) (fun r_1 er_1 => ?_)
  subst er_1
  refine w_ifBeq (tgt := 14) hx hb dX1_share_7 (by decide) (fun h7_0 => absurd ((armB2_t hn hi hk)) (by rw [h7_0]; decide)) (fun h7_0 => ?_)
  refine lv_iconst (v := nI 0) hx hb dX1_share_10 (by decide) ?_
  refine lv_goto (tgt := 15) hx hb dX1_share_11 (by decide) ?_
  refine w_putM (v := .int (nI 0)) (ty := .int) S in_w hK hP (wD_of hq rfl) hS rfl 0 (by decide) fl_45 rfl (by decide +kernel) rfl rfl (Nat.le_of_ble_eq_true rfl) rfl dX1_share_15 (fun H locs hP hS => ?_)
  have hP : va_P D cls2 (mW q cI cD (nI 0) (nI n) rC hh fi fo fw fe fr ff fp fl fc) H := hP
  refine lv_aload_n hx hb dX1_share_18 rfl (lv_at hl 0 rfl) ?_
  refine w_getM (own := RX1) (v := .int (nI 0)) S in_w hK hP rfl 0 (by decide) fl_45 rfl rfl dX1_share_19 ?_
  refine lv_if_gt (tgt := 35) hx hb dX1_share_22 (by decide) (fun h22_1 => absurd h22_1 (by decide)) (fun h22_1 => ?_)
  refine lv_aload_n hx hb dX1_share_25 rfl (lv_at hl 0 rfl) ?_
  refine lv_iload_n hx hb dX1_share_26 rfl (lv_at hl 1 rfl) ?_
  refine vp_callSd (W.runV (As := [.int (nI i)]) (rest := []) S (c_X1_rowSum hn hE (i := i) (by omega) ho) (cwV 1 hts gX1_share_X1_rowSum rfl rfl rfl hdX1_rowSum ⟨Nat.le_of_ble_eq_true rfl, Nat.le_of_ble_eq_true rfl⟩) (preV hK hP rfl rfl) rfl rfl hl.1 rfl (lv_room (Nat.le_of_ble_eq_true rfl)) dX1_share_27 ⟨Nat.zero_le _, Nat.zero_le _⟩) (fun r_2 er_2 => ?_)
  subst er_2
  refine lv_dconst0 hx hb dX1_share_30 ?_
  refine w_dgtT (tgt := 39) hx hb dX1_share_31 dX1_share_32 (by decide) (fun h31_2 => ?_) (fun h31_2 => ?_)
  · refine lv_aload_n hx hb dX1_share_39 rfl (lv_at hl 0 rfl) ?_
    refine w_getM (own := RX1) (v := .ref (q 4)) S in_w hK hP rfl 5 (by decide) fl_23 rfl rfl dX1_share_40 ?_
    refine lv_bipush (v := nI 6) hx hb dX1_share_43 (by decide) ?_
    refine lv_iload_n hx hb dX1_share_45 rfl (lv_at hl 1 rfl) ?_
    refine w_imulL (N := 6) (y := 0) hx hb rfl dX1_share_46 ?_
    refine lv_iload_n hx hb dX1_share_47 rfl (lv_at hl 2 rfl) ?_
    refine w_iadd hx hb dX1_share_48 ?_
    refine w_dald hx hb hK hP 4 1 rfl rfl (j := 6 * i + k) (v := e i k) (hE i k (by omega) (by omega)) (by omega) (by decide) dX1_share_49 ?_
    refine lv_aload_n hx hb dX1_share_50 rfl (lv_at hl 0 rfl) ?_
    refine lv_iload_n hx hb dX1_share_51 rfl (lv_at hl 1 rfl) ?_
    refine vp_callSd (W.runV (As := [.int (nI i)]) (rest := [.double (e i k)]) S (c_X1_rowSum hn hE (i := i) (by omega) ho) (cwV 1 hts gX1_share_X1_rowSum rfl rfl rfl hdX1_rowSum ⟨Nat.le_of_ble_eq_true rfl, Nat.le_of_ble_eq_true rfl⟩) (preV hK hP rfl rfl) rfl rfl hl.1 rfl (lv_room (Nat.le_of_ble_eq_true rfl)) dX1_share_52 ⟨Nat.zero_le _, Nat.zero_le _⟩) (fun r_3 er_3 => ?_)
    subst er_3
    refine lv_ddiv hx hb dX1_share_55 (hd h31_2) ?_
    subst hQ
    exact W.dret hx hb hr (fun t ht hWm => ⟨⟨_, (), rfl, (by unfold shr; rw [h31_2]; rfl), (show va_P D cls2 _ t.heap from by rw [ht]; exact hP)⟩, hS.F ht⟩) hS.2.2 dX1_share_56
  · refine lv_dconst0 hx hb dX1_share_35 ?_
    refine lv_goto (tgt := 56) hx hb dX1_share_36 (by decide) ?_
    subst hQ
    exact W.dret hx hb hr (fun t ht hWm => ⟨⟨_, (), rfl, (by unfold shr; rw [h31_2]; rfl), (show va_P D cls2 _ t.heap from by rw [ht]; exact hP)⟩, hS.F ht⟩) hS.2.2 dX1_share_56
set_option maxHeartbeats 4000000 in
set_option maxRecDepth 100000 in
theorem c_X1_sharex {l : Launch} {D : va_G} {q : Nat → Nat} {cI cD : ClassId} {th rC : Int32} {hh : Int64} {fi fo fw : Nat → Int32} {fe : Nat → UInt64} {fr : Nat → Int32} {ff : Nat → UInt64} {fp fl fc : Nat → Int32} {n : Nat} (hn : 3 ≤ n ∧ n ≤ 6) {x y : Int32} (hxx : (armB n x && armB n y) = false) (hq : qD q) : Met l yX1_share wsX1_share rX1_share (va_Pc [.ref (q 0), .int x, .int y] (wPre D (tys2 cI cD) (mW q cI cD th (nI n) rC hh fi fo fw fe fr ff fp fl fc))) (va_Qd (fun r (u : Unit) => True) (fun u t => va_P D cls2 (mW q cI cD (nI 1) (nI n) rC hh fi fo fw fe fr ff fp fl fc) t.heap) (qA q)) 0 0 (qA q) := by
  refine met_intro (cc := cX1_share) (maxL := 3) (ret := (some .double)) (own := RX1) (by decide) rfl rfl (Nat.le_of_ble_eq_true rfl) ?_
  intro pp ee ss mm args below meth cd Q ls hQ S hr hlocks hv hB hl
  obtain ⟨hx, hb, hml, hown, hts⟩ := id S
  obtain ⟨hP, hK⟩ := hB
  have in_w : ∀ w ∈ wsX10, w ∈ wsX1_share := by decide +kernel
  have fl_45 : Cond.fieldLink RX1 45 RX1 (TX1 0).2.1 (TX1 0).2.2.1 ∈ wsX1_share := by decide +kernel
  have hS : va_S (qA q) ss.heap ss.heap [] := va_S.rf
  generalize hHg : ss.heap = H at hP
  have hS : va_S (qA q) ss.heap H [] := by rw [← hHg]; exact hS
  suffices hgo : ∀ locs : List Loc, va_S (qA q) ss.heap H locs → W pp l ee rX1_share ss mm args below meth cd H locs 0 0 Q (F0 mm 0 ls []) by
    first | exact hgo [] hS | (rw [hHg]; exact hgo [] hS)
  clear hS
  intro locs hS
  have hl : lv_has ls 3 [(0, .ref (q 0)), (1, .int x), (2, .int y)] := hl
  refine lv_aload_n hx hb dX1_share_0 rfl (lv_at hl 0 rfl) ?_
  refine lv_aload_n hx hb dX1_share_1 rfl (lv_at hl 0 rfl) ?_
  refine lv_iload_n hx hb dX1_share_2 rfl (lv_at hl 1 rfl) ?_
  refine lv_iload_n hx hb dX1_share_3 rfl (lv_at hl 2 rfl) ?_
  refine vp_callSi (W.runV (As := [.int x, .int y]) (rest := [.ref (q 0)]) S (c_X1_areArms (x := x) (y := y)) (cwV 2 hts gX1_share_X1_areArms rfl rfl rfl hdX1_areArms ⟨Nat.le_of_ble_eq_true rfl, Nat.le_of_ble_eq_true rfl⟩) (preV hK hP rfl rfl) rfl rfl hl.1 rfl (lv_room (Nat.le_of_ble_eq_true rfl)) dX1_share_4 ⟨Nat.zero_le _, Nat.zero_le _⟩) (fun r_1 er_1 => ?_)
  subst er_1
  refine w_ifBeq (tgt := 14) hx hb dX1_share_7 (by decide) (fun h7_0 => ?_) (fun h7_0 => absurd (hxx) (by rw [h7_0]; decide))
  refine lv_iconst (v := nI 1) hx hb dX1_share_14 (by decide) ?_
  refine w_putM (v := .int (nI 1)) (ty := .int) S in_w hK hP (wD_of hq rfl) hS rfl 0 (by decide) fl_45 rfl (by decide +kernel) rfl rfl (Nat.le_of_ble_eq_true rfl) rfl dX1_share_15 (fun H locs hP hS => ?_)
  have hP : va_P D cls2 (mW q cI cD (nI 1) (nI n) rC hh fi fo fw fe fr ff fp fl fc) H := hP
  refine lv_aload_n hx hb dX1_share_18 rfl (lv_at hl 0 rfl) ?_
  refine w_getM (own := RX1) (v := .int (nI 1)) S in_w hK hP rfl 0 (by decide) fl_45 rfl rfl dX1_share_19 ?_
  refine lv_if_gt (tgt := 35) hx hb dX1_share_22 (by decide) (fun h22_1 => ?_) (fun h22_1 => absurd (by decide) h22_1)
  refine lv_dconst0 hx hb dX1_share_35 ?_
  refine lv_goto (tgt := 56) hx hb dX1_share_36 (by decide) ?_
  subst hQ
  exact W.dret hx hb hr (fun t ht hWm => ⟨⟨_, (), rfl, trivial, (show va_P D cls2 _ t.heap from by rw [ht]; exact hP)⟩, hS.F ht⟩) hS.2.2 dX1_share_56
abbrev rX1_crossRatio : Room := { frames := 3, cells := 0, slots := 0, locals := 65 }
theorem hdX1_crossRatio : yX1_crossRatio.cls = RX1 ∧ yX1_crossRatio.cls ≠ "java/lang/invoke/MethodHandle" ∧ yX1_crossRatio.cls ≠ "java/lang/invoke/VarHandle" ∧ (parseMethodDescriptor yX1_crossRatio.desc).map (fun d => d.parameters.length) = some 4 := by decide +kernel
set_option maxHeartbeats 4000000 in
set_option maxRecDepth 100000 in
theorem c_X1_crossRatio {l : Launch} {D : va_G} {q : Nat → Nat} {cI cD : ClassId} {th rC : Int32} {hh : Int64} {fi fo fw : Nat → Int32} {fe : Nat → UInt64} {fr : Nat → Int32} {ff : Nat → UInt64} {fp fl fc : Nat → Int32} {n : Nat} (hn : 3 ≤ n ∧ n ≤ 6) {e : Nat → Nat → UInt64} (hE : ag2 n fe e) {a b c d : Nat} (ha : a < n) (hb' : b < n) (hc : c < n) (hd : d < n) (h1 : vf_n64 (FP.dmul (e a c) (e b d))) (h2 : vf_n64 (FP.dmul (e a d) (e b c))) (hs : dgt (FP.dmul (e a d) (e b c)) FP.dconst0 = true) (h3 : vf_n64 (FP.ddiv (FP.dmul (e a c) (e b d)) (FP.dmul (e a d) (e b c)))) (hq : qD q) : Met l yX1_crossRatio wsX1_crossRatio rX1_crossRatio (va_Pc [.ref (q 0), .int (nI a), .int (nI b), .int (nI c), .int (nI d)] (wPre D (tys2 cI cD) (mW q cI cD th (nI n) rC hh fi fo fw fe fr ff fp fl fc))) (va_Qd (fun r (u : Unit) => r = FP.ddiv (FP.dmul (e a c) (e b d)) (FP.dmul (e a d) (e b c))) (fun u t => va_P D cls2 (mW q cI cD (nI 0) (nI n) rC hh fi fo fw fe fr ff fp fl fc) t.heap) (qA q)) 0 0 (qA q) := by
  refine met_intro (cc := cX1_crossRatio) (maxL := 9) (ret := (some .double)) (own := RX1) (by decide) rfl rfl (Nat.le_of_ble_eq_true rfl) ?_
  intro pp ee ss mm args below meth cd Q ls hQ S hr hlocks hv hB hl
  obtain ⟨hx, hb, hml, hown, hts⟩ := id S
  obtain ⟨hP, hK⟩ := hB
  have in_w : ∀ w ∈ wsX10, w ∈ wsX1_crossRatio := by decide +kernel
  have fl_23 : Cond.fieldLink RX1 23 RX1 (TX1 5).2.1 (TX1 5).2.2.1 ∈ wsX1_crossRatio := by decide +kernel
  have fl_45 : Cond.fieldLink RX1 45 RX1 (TX1 0).2.1 (TX1 0).2.2.1 ∈ wsX1_crossRatio := by decide +kernel
  have hS : va_S (qA q) ss.heap ss.heap [] := va_S.rf
  generalize hHg : ss.heap = H at hP
  have hS : va_S (qA q) ss.heap H [] := by rw [← hHg]; exact hS
  suffices hgo : ∀ locs : List Loc, va_S (qA q) ss.heap H locs → W pp l ee rX1_crossRatio ss mm args below meth cd H locs 0 0 Q (F0 mm 0 ls []) by
    first | exact hgo [] hS | (rw [hHg]; exact hgo [] hS)
  clear hS
  intro locs hS
  have hl : lv_has ls 9 [(0, .ref (q 0)), (1, .int (nI a)), (2, .int (nI b)), (3, .int (nI c)), (4, .int (nI d))] := hl
  refine lv_aload_n hx hb dX1_crossRatio_0 rfl (lv_at hl 0 rfl) ?_
  refine lv_aload_n hx hb dX1_crossRatio_1 rfl (lv_at hl 0 rfl) ?_
  refine lv_iload_n hx hb dX1_crossRatio_2 rfl (lv_at hl 1 rfl) ?_
  refine lv_iload_n hx hb dX1_crossRatio_3 rfl (lv_at hl 2 rfl) ?_
  refine vp_callSi (W.runV (As := [.int (nI a), .int (nI b)]) (rest := [.ref (q 0)]) S (c_X1_areArms (x := nI a) (y := nI b)) (cwV 2 hts gX1_crossRatio_X1_areArms rfl rfl rfl hdX1_areArms ⟨Nat.le_of_ble_eq_true rfl, Nat.le_of_ble_eq_true rfl⟩) (preV hK hP rfl rfl) rfl rfl hl.1 rfl (lv_room (Nat.le_of_ble_eq_true rfl)) dX1_crossRatio_4 ⟨Nat.zero_le _, Nat.zero_le _⟩) (fun r_1 er_1 => ?_)
  subst er_1
  refine w_ifBeq (tgt := 24) hx hb dX1_crossRatio_7 (by decide) (fun h7_0 => absurd ((armB2_t hn ha hb')) (by rw [h7_0]; decide)) (fun h7_0 => ?_)
  refine lv_aload_n hx hb dX1_crossRatio_10 rfl (lv_at hl 0 rfl) ?_
  refine lv_iload_n hx hb dX1_crossRatio_11 rfl (lv_at hl 3 rfl) ?_
  refine lv_iload hx hb dX1_crossRatio_12 (lv_at hl 4 rfl) ?_
  refine vp_callSi (W.runV (As := [.int (nI c), .int (nI d)]) (rest := [.ref (q 0)]) S (c_X1_areArms (x := nI c) (y := nI d)) (cwV 2 hts gX1_crossRatio_X1_areArms rfl rfl rfl hdX1_areArms ⟨Nat.le_of_ble_eq_true rfl, Nat.le_of_ble_eq_true rfl⟩) (preV hK hP rfl rfl) rfl rfl hl.1 rfl (lv_room (Nat.le_of_ble_eq_true rfl)) dX1_crossRatio_14 ⟨Nat.zero_le _, Nat.zero_le _⟩) (fun r_2 er_2 => ?_)
  subst er_2
  refine w_ifBeq (tgt := 24) hx hb dX1_crossRatio_17 (by decide) (fun h17_1 => absurd ((armB2_t hn hc hd)) (by rw [h17_1]; decide)) (fun h17_1 => ?_)
  refine lv_iconst (v := nI 0) hx hb dX1_crossRatio_20 (by decide) ?_
  refine lv_goto (tgt := 25) hx hb dX1_crossRatio_21 (by decide) ?_
  refine w_putM (v := .int (nI 0)) (ty := .int) S in_w hK hP (wD_of hq rfl) hS rfl 0 (by decide) fl_45 rfl (by decide +kernel) rfl rfl (Nat.le_of_ble_eq_true rfl) rfl dX1_crossRatio_25 (fun H locs hP hS => ?_)
  have hP : va_P D cls2 (mW q cI cD (nI 0) (nI n) rC hh fi fo fw fe fr ff fp fl fc) H := hP
  refine lv_aload_n hx hb dX1_crossRatio_28 rfl (lv_at hl 0 rfl) ?_
  refine w_getM (own := RX1) (v := .int (nI 0)) S in_w hK hP rfl 0 (by decide) fl_45 rfl rfl dX1_crossRatio_29 ?_
  refine lv_if_le (tgt := 37) hx hb dX1_crossRatio_32 (by decide) (fun h32_2 => ?_) (fun h32_2 => absurd (by decide) h32_2)
  refine lv_aload_n hx hb dX1_crossRatio_37 rfl (lv_at hl 0 rfl) ?_
  refine w_getM (own := RX1) (v := .ref (q 4)) S in_w hK hP rfl 5 (by decide) fl_23 rfl rfl dX1_crossRatio_38 ?_
  refine lv_bipush (v := nI 6) hx hb dX1_crossRatio_41 (by decide) ?_
  refine lv_iload_n hx hb dX1_crossRatio_43 rfl (lv_at hl 1 rfl) ?_
  refine w_imulL (N := 6) (y := 0) hx hb rfl dX1_crossRatio_44 ?_
  refine lv_iload_n hx hb dX1_crossRatio_45 rfl (lv_at hl 3 rfl) ?_
  refine w_iadd hx hb dX1_crossRatio_46 ?_
  refine w_dald hx hb hK hP 4 1 rfl rfl (j := 6 * a + c) (v := e a c) (hE a c (by omega) (by omega)) (by omega) (by decide) dX1_crossRatio_47 ?_
  refine lv_aload_n hx hb dX1_crossRatio_48 rfl (lv_at hl 0 rfl) ?_
  refine w_getM (own := RX1) (v := .ref (q 4)) S in_w hK hP rfl 5 (by decide) fl_23 rfl rfl dX1_crossRatio_49 ?_
  refine lv_bipush (v := nI 6) hx hb dX1_crossRatio_52 (by decide) ?_
  refine lv_iload_n hx hb dX1_crossRatio_54 rfl (lv_at hl 2 rfl) ?_
  refine w_imulL (N := 6) (y := 0) hx hb rfl dX1_crossRatio_55 ?_
  refine lv_iload hx hb dX1_crossRatio_56 (lv_at hl 4 rfl) ?_
  refine w_iadd hx hb dX1_crossRatio_58 ?_
  refine w_dald hx hb hK hP 4 1 rfl rfl (j := 6 * b + d) (v := e b d) (hE b d (by omega) (by omega)) (by omega) (by decide) dX1_crossRatio_59 ?_
  refine lv_dmul hx hb dX1_crossRatio_60 h1 ?_
  refine lv_dstore (lv' := [(5, .double (FP.dmul (e a c) (e b d))), (0, .ref (q 0)), (1, .int (nI a)), (2, .int (nI b)), (3, .int (nI c)), (4, .int (nI d))]) hx hb dX1_crossRatio_61 hl (by decide) rfl (fun ls hl => ?_)
  refine lv_aload_n hx hb dX1_crossRatio_63 rfl (lv_at hl 1 rfl) ?_
  refine w_getM (own := RX1) (v := .ref (q 4)) S in_w hK hP rfl 5 (by decide) fl_23 rfl rfl dX1_crossRatio_64 ?_
  refine lv_bipush (v := nI 6) hx hb dX1_crossRatio_67 (by decide) ?_
  refine lv_iload_n hx hb dX1_crossRatio_69 rfl (lv_at hl 2 rfl) ?_
  refine w_imulL (N := 6) (y := 0) hx hb rfl dX1_crossRatio_70 ?_
  refine lv_iload hx hb dX1_crossRatio_71 (lv_at hl 5 rfl) ?_
  refine w_iadd hx hb dX1_crossRatio_73 ?_
  refine w_dald hx hb hK hP 4 1 rfl rfl (j := 6 * a + d) (v := e a d) (hE a d (by omega) (by omega)) (by omega) (by decide) dX1_crossRatio_74 ?_
  refine lv_aload_n hx hb dX1_crossRatio_75 rfl (lv_at hl 1 rfl) ?_
  refine w_getM (own := RX1) (v := .ref (q 4)) S in_w hK hP rfl 5 (by decide) fl_23 rfl rfl dX1_crossRatio_76 ?_
  refine lv_bipush (v := nI 6) hx hb dX1_crossRatio_79 (by decide) ?_
  refine lv_iload_n hx hb dX1_crossRatio_81 rfl (lv_at hl 3 rfl) ?_
  refine w_imulL (N := 6) (y := 0) hx hb rfl dX1_crossRatio_82 ?_
  refine lv_iload_n hx hb dX1_crossRatio_83 rfl (lv_at hl 4 rfl) ?_
  refine w_iadd hx hb dX1_crossRatio_84 ?_
  refine w_dald hx hb hK hP 4 1 rfl rfl (j := 6 * b + c) (v := e b c) (hE b c (by omega) (by omega)) (by omega) (by decide) dX1_crossRatio_85 ?_
  refine lv_dmul hx hb dX1_crossRatio_86 h2 ?_
  refine lv_dstore (lv' := [(7, .double (FP.dmul (e a d) (e b c))), (5, .double (FP.dmul (e a c) (e b d))), (0, .ref (q 0)), (1, .int (nI a)), (2, .int (nI b)), (3, .int (nI c)), (4, .int (nI d))]) hx hb dX1_crossRatio_87 hl (by decide) rfl (fun ls hl => ?_)
  refine lv_aload_n hx hb dX1_crossRatio_89 rfl (lv_at hl 2 rfl) ?_
  refine lv_dload hx hb dX1_crossRatio_90 (lv_at hl 0 rfl) ?_
  refine lv_dconst0 hx hb dX1_crossRatio_92 ?_
  refine w_dgt (tgt := 101) hx hb dX1_crossRatio_93 dX1_crossRatio_94 (by decide) (fun h93_3 => absurd (hs) (by rw [h93_3]; decide)) (fun h93_3 => ?_)
  refine lv_iconst (v := nI 0) hx hb dX1_crossRatio_97 (by decide) ?_
  refine lv_goto (tgt := 102) hx hb dX1_crossRatio_98 (by decide) ?_
  refine w_putM (v := .int (nI 0)) (ty := .int) S in_w hK hP (wD_of hq rfl) hS rfl 0 (by decide) fl_45 rfl (by decide +kernel) rfl rfl (Nat.le_of_ble_eq_true rfl) rfl dX1_crossRatio_102 (fun H locs hP hS => ?_)
  have hP : va_P D cls2 (mW q cI cD (nI 0) (nI n) rC hh fi fo fw fe fr ff fp fl fc) H := hP
  refine lv_aload_n hx hb dX1_crossRatio_105 rfl (lv_at hl 2 rfl) ?_
  refine w_getM (own := RX1) (v := .int (nI 0)) S in_w hK hP rfl 0 (by decide) fl_45 rfl rfl dX1_crossRatio_106 ?_
  refine lv_if_le (tgt := 116) hx hb dX1_crossRatio_109 (by decide) (fun h109_4 => ?_) (fun h109_4 => absurd (by decide) h109_4)
  refine lv_dload hx hb dX1_crossRatio_116 (lv_at hl 1 rfl) ?_
  refine lv_dload hx hb dX1_crossRatio_118 (lv_at hl 0 rfl) ?_
  refine lv_ddiv hx hb dX1_crossRatio_120 h3 ?_
  subst hQ
  exact W.dret hx hb hr (fun t ht hWm => ⟨⟨_, (), rfl, rfl, (show va_P D cls2 _ t.heap from by rw [ht]; exact hP)⟩, hS.F ht⟩) hS.2.2 dX1_crossRatio_121
set_option maxHeartbeats 4000000 in
set_option maxRecDepth 100000 in
theorem c_X1_crossRatiox1 {l : Launch} {D : va_G} {q : Nat → Nat} {cI cD : ClassId} {th rC : Int32} {hh : Int64} {fi fo fw : Nat → Int32} {fe : Nat → UInt64} {fr : Nat → Int32} {ff : Nat → UInt64} {fp fl fc : Nat → Int32} {n : Nat} (hn : 3 ≤ n ∧ n ≤ 6) {x y z v : Int32} (hxx : (armB n x && armB n y) = false) (hq : qD q) : Met l yX1_crossRatio wsX1_crossRatio rX1_crossRatio (va_Pc [.ref (q 0), .int x, .int y, .int z, .int v] (wPre D (tys2 cI cD) (mW q cI cD th (nI n) rC hh fi fo fw fe fr ff fp fl fc))) (va_Qd (fun r (u : Unit) => True) (fun u t => va_P D cls2 (mW q cI cD (nI 1) (nI n) rC hh fi fo fw fe fr ff fp fl fc) t.heap) (qA q)) 0 0 (qA q) := by
  refine met_intro (cc := cX1_crossRatio) (maxL := 9) (ret := (some .double)) (own := RX1) (by decide) rfl rfl (Nat.le_of_ble_eq_true rfl) ?_
  intro pp ee ss mm args below meth cd Q ls hQ S hr hlocks hv hB hl
  obtain ⟨hx, hb, hml, hown, hts⟩ := id S
  obtain ⟨hP, hK⟩ := hB
  have in_w : ∀ w ∈ wsX10, w ∈ wsX1_crossRatio := by decide +kernel
  have fl_45 : Cond.fieldLink RX1 45 RX1 (TX1 0).2.1 (TX1 0).2.2.1 ∈ wsX1_crossRatio := by decide +kernel
  have hS : va_S (qA q) ss.heap ss.heap [] := va_S.rf
  generalize hHg : ss.heap = H at hP
  have hS : va_S (qA q) ss.heap H [] := by rw [← hHg]; exact hS
  suffices hgo : ∀ locs : List Loc, va_S (qA q) ss.heap H locs → W pp l ee rX1_crossRatio ss mm args below meth cd H locs 0 0 Q (F0 mm 0 ls []) by
    first | exact hgo [] hS | (rw [hHg]; exact hgo [] hS)
  clear hS
  intro locs hS
  have hl : lv_has ls 9 [(0, .ref (q 0)), (1, .int x), (2, .int y), (3, .int z), (4, .int v)] := hl
  refine lv_aload_n hx hb dX1_crossRatio_0 rfl (lv_at hl 0 rfl) ?_
  refine lv_aload_n hx hb dX1_crossRatio_1 rfl (lv_at hl 0 rfl) ?_
  refine lv_iload_n hx hb dX1_crossRatio_2 rfl (lv_at hl 1 rfl) ?_
  refine lv_iload_n hx hb dX1_crossRatio_3 rfl (lv_at hl 2 rfl) ?_
  refine vp_callSi (W.runV (As := [.int x, .int y]) (rest := [.ref (q 0)]) S (c_X1_areArms (x := x) (y := y)) (cwV 2 hts gX1_crossRatio_X1_areArms rfl rfl rfl hdX1_areArms ⟨Nat.le_of_ble_eq_true rfl, Nat.le_of_ble_eq_true rfl⟩) (preV hK hP rfl rfl) rfl rfl hl.1 rfl (lv_room (Nat.le_of_ble_eq_true rfl)) dX1_crossRatio_4 ⟨Nat.zero_le _, Nat.zero_le _⟩) (fun r_1 er_1 => ?_)
  subst er_1
  refine w_ifBeq (tgt := 24) hx hb dX1_crossRatio_7 (by decide) (fun h7_0 => ?_) (fun h7_0 => absurd (hxx) (by rw [h7_0]; decide))
  refine lv_iconst (v := nI 1) hx hb dX1_crossRatio_24 (by decide) ?_
  refine w_putM (v := .int (nI 1)) (ty := .int) S in_w hK hP (wD_of hq rfl) hS rfl 0 (by decide) fl_45 rfl (by decide +kernel) rfl rfl (Nat.le_of_ble_eq_true rfl) rfl dX1_crossRatio_25 (fun H locs hP hS => ?_)
  have hP : va_P D cls2 (mW q cI cD (nI 1) (nI n) rC hh fi fo fw fe fr ff fp fl fc) H := hP
  refine lv_aload_n hx hb dX1_crossRatio_28 rfl (lv_at hl 0 rfl) ?_
  refine w_getM (own := RX1) (v := .int (nI 1)) S in_w hK hP rfl 0 (by decide) fl_45 rfl rfl dX1_crossRatio_29 ?_
  refine lv_if_le (tgt := 37) hx hb dX1_crossRatio_32 (by decide) (fun h32_1 => absurd h32_1 (by decide)) (fun h32_1 => ?_)
  refine lv_dconst0 hx hb dX1_crossRatio_35 ?_
  subst hQ
  exact W.dret hx hb hr (fun t ht hWm => ⟨⟨_, (), rfl, trivial, (show va_P D cls2 _ t.heap from by rw [ht]; exact hP)⟩, hS.F ht⟩) hS.2.2 dX1_crossRatio_36
set_option maxHeartbeats 4000000 in
set_option maxRecDepth 100000 in
theorem c_X1_crossRatiox2 {l : Launch} {D : va_G} {q : Nat → Nat} {cI cD : ClassId} {th rC : Int32} {hh : Int64} {fi fo fw : Nat → Int32} {fe : Nat → UInt64} {fr : Nat → Int32} {ff : Nat → UInt64} {fp fl fc : Nat → Int32} {n : Nat} (hn : 3 ≤ n ∧ n ≤ 6) {x y z v : Int32} (hxx : (armB n x && armB n y) = true) (hyy : (armB n z && armB n v) = false) (hq : qD q) : Met l yX1_crossRatio wsX1_crossRatio rX1_crossRatio (va_Pc [.ref (q 0), .int x, .int y, .int z, .int v] (wPre D (tys2 cI cD) (mW q cI cD th (nI n) rC hh fi fo fw fe fr ff fp fl fc))) (va_Qd (fun r (u : Unit) => True) (fun u t => va_P D cls2 (mW q cI cD (nI 1) (nI n) rC hh fi fo fw fe fr ff fp fl fc) t.heap) (qA q)) 0 0 (qA q) := by
  refine met_intro (cc := cX1_crossRatio) (maxL := 9) (ret := (some .double)) (own := RX1) (by decide) rfl rfl (Nat.le_of_ble_eq_true rfl) ?_
  intro pp ee ss mm args below meth cd Q ls hQ S hr hlocks hv hB hl
  obtain ⟨hx, hb, hml, hown, hts⟩ := id S
  obtain ⟨hP, hK⟩ := hB
  have in_w : ∀ w ∈ wsX10, w ∈ wsX1_crossRatio := by decide +kernel
  have fl_45 : Cond.fieldLink RX1 45 RX1 (TX1 0).2.1 (TX1 0).2.2.1 ∈ wsX1_crossRatio := by decide +kernel
  have hS : va_S (qA q) ss.heap ss.heap [] := va_S.rf
  generalize hHg : ss.heap = H at hP
  have hS : va_S (qA q) ss.heap H [] := by rw [← hHg]; exact hS
  suffices hgo : ∀ locs : List Loc, va_S (qA q) ss.heap H locs → W pp l ee rX1_crossRatio ss mm args below meth cd H locs 0 0 Q (F0 mm 0 ls []) by
    first | exact hgo [] hS | (rw [hHg]; exact hgo [] hS)
  clear hS
  intro locs hS
  have hl : lv_has ls 9 [(0, .ref (q 0)), (1, .int x), (2, .int y), (3, .int z), (4, .int v)] := hl
  refine lv_aload_n hx hb dX1_crossRatio_0 rfl (lv_at hl 0 rfl) ?_
  refine lv_aload_n hx hb dX1_crossRatio_1 rfl (lv_at hl 0 rfl) ?_
  refine lv_iload_n hx hb dX1_crossRatio_2 rfl (lv_at hl 1 rfl) ?_
  refine lv_iload_n hx hb dX1_crossRatio_3 rfl (lv_at hl 2 rfl) ?_
  refine vp_callSi (W.runV (As := [.int x, .int y]) (rest := [.ref (q 0)]) S (c_X1_areArms (x := x) (y := y)) (cwV 2 hts gX1_crossRatio_X1_areArms rfl rfl rfl hdX1_areArms ⟨Nat.le_of_ble_eq_true rfl, Nat.le_of_ble_eq_true rfl⟩) (preV hK hP rfl rfl) rfl rfl hl.1 rfl (lv_room (Nat.le_of_ble_eq_true rfl)) dX1_crossRatio_4 ⟨Nat.zero_le _, Nat.zero_le _⟩) (fun r_1 er_1 => ?_)
  subst er_1
  refine w_ifBeq (tgt := 24) hx hb dX1_crossRatio_7 (by decide) (fun h7_0 => absurd (hxx) (by rw [h7_0]; decide)) (fun h7_0 => ?_)
  refine lv_aload_n hx hb dX1_crossRatio_10 rfl (lv_at hl 0 rfl) ?_
  refine lv_iload_n hx hb dX1_crossRatio_11 rfl (lv_at hl 3 rfl) ?_
  refine lv_iload hx hb dX1_crossRatio_12 (lv_at hl 4 rfl) ?_
  refine vp_callSi (W.runV (As := [.int z, .int v]) (rest := [.ref (q 0)]) S (c_X1_areArms (x := z) (y := v)) (cwV 2 hts gX1_crossRatio_X1_areArms rfl rfl rfl hdX1_areArms ⟨Nat.le_of_ble_eq_true rfl, Nat.le_of_ble_eq_true rfl⟩) (preV hK hP rfl rfl) rfl rfl hl.1 rfl (lv_room (Nat.le_of_ble_eq_true rfl)) dX1_crossRatio_14 ⟨Nat.zero_le _, Nat.zero_le _⟩) (fun r_2 er_2 => ?_)
  subst er_2
  refine w_ifBeq (tgt := 24) hx hb dX1_crossRatio_17 (by decide) (fun h17_1 => ?_) (fun h17_1 => absurd (hyy) (by rw [h17_1]; decide))
  refine lv_iconst (v := nI 1) hx hb dX1_crossRatio_24 (by decide) ?_
  refine w_putM (v := .int (nI 1)) (ty := .int) S in_w hK hP (wD_of hq rfl) hS rfl 0 (by decide) fl_45 rfl (by decide +kernel) rfl rfl (Nat.le_of_ble_eq_true rfl) rfl dX1_crossRatio_25 (fun H locs hP hS => ?_)
  have hP : va_P D cls2 (mW q cI cD (nI 1) (nI n) rC hh fi fo fw fe fr ff fp fl fc) H := hP
  refine lv_aload_n hx hb dX1_crossRatio_28 rfl (lv_at hl 0 rfl) ?_
  refine w_getM (own := RX1) (v := .int (nI 1)) S in_w hK hP rfl 0 (by decide) fl_45 rfl rfl dX1_crossRatio_29 ?_
  refine lv_if_le (tgt := 37) hx hb dX1_crossRatio_32 (by decide) (fun h32_2 => absurd h32_2 (by decide)) (fun h32_2 => ?_)
  refine lv_dconst0 hx hb dX1_crossRatio_35 ?_
  subst hQ
  exact W.dret hx hb hr (fun t ht hWm => ⟨⟨_, (), rfl, trivial, (show va_P D cls2 _ t.heap from by rw [ht]; exact hP)⟩, hS.F ht⟩) hS.2.2 dX1_crossRatio_36
set_option maxHeartbeats 4000000 in
set_option maxRecDepth 100000 in
theorem c_X1_crossRatiox3 {l : Launch} {D : va_G} {q : Nat → Nat} {cI cD : ClassId} {th rC : Int32} {hh : Int64} {fi fo fw : Nat → Int32} {fe : Nat → UInt64} {fr : Nat → Int32} {ff : Nat → UInt64} {fp fl fc : Nat → Int32} {n : Nat} (hn : 3 ≤ n ∧ n ≤ 6) {e : Nat → Nat → UInt64} (hE : ag2 n fe e) {a b c d : Nat} (ha : a < n) (hb' : b < n) (hc : c < n) (hd : d < n) (h1 : vf_n64 (FP.dmul (e a c) (e b d))) (h2 : vf_n64 (FP.dmul (e a d) (e b c))) (hs : dgt (FP.dmul (e a d) (e b c)) FP.dconst0 = false) (hq : qD q) : Met l yX1_crossRatio wsX1_crossRatio rX1_crossRatio (va_Pc [.ref (q 0), .int (nI a), .int (nI b), .int (nI c), .int (nI d)] (wPre D (tys2 cI cD) (mW q cI cD th (nI n) rC hh fi fo fw fe fr ff fp fl fc))) (va_Qd (fun r (u : Unit) => True) (fun u t => va_P D cls2 (mW q cI cD (nI 2) (nI n) rC hh fi fo fw fe fr ff fp fl fc) t.heap) (qA q)) 0 0 (qA q) := by
  refine met_intro (cc := cX1_crossRatio) (maxL := 9) (ret := (some .double)) (own := RX1) (by decide) rfl rfl (Nat.le_of_ble_eq_true rfl) ?_
  intro pp ee ss mm args below meth cd Q ls hQ S hr hlocks hv hB hl
  obtain ⟨hx, hb, hml, hown, hts⟩ := id S
  obtain ⟨hP, hK⟩ := hB
  have in_w : ∀ w ∈ wsX10, w ∈ wsX1_crossRatio := by decide +kernel
  have fl_23 : Cond.fieldLink RX1 23 RX1 (TX1 5).2.1 (TX1 5).2.2.1 ∈ wsX1_crossRatio := by decide +kernel
  have fl_45 : Cond.fieldLink RX1 45 RX1 (TX1 0).2.1 (TX1 0).2.2.1 ∈ wsX1_crossRatio := by decide +kernel
  have hS : va_S (qA q) ss.heap ss.heap [] := va_S.rf
  generalize hHg : ss.heap = H at hP
  have hS : va_S (qA q) ss.heap H [] := by rw [← hHg]; exact hS
  suffices hgo : ∀ locs : List Loc, va_S (qA q) ss.heap H locs → W pp l ee rX1_crossRatio ss mm args below meth cd H locs 0 0 Q (F0 mm 0 ls []) by
    first | exact hgo [] hS | (rw [hHg]; exact hgo [] hS)
  clear hS
  intro locs hS
  have hl : lv_has ls 9 [(0, .ref (q 0)), (1, .int (nI a)), (2, .int (nI b)), (3, .int (nI c)), (4, .int (nI d))] := hl
  refine lv_aload_n hx hb dX1_crossRatio_0 rfl (lv_at hl 0 rfl) ?_
  refine lv_aload_n hx hb dX1_crossRatio_1 rfl (lv_at hl 0 rfl) ?_
  refine lv_iload_n hx hb dX1_crossRatio_2 rfl (lv_at hl 1 rfl) ?_
  refine lv_iload_n hx hb dX1_crossRatio_3 rfl (lv_at hl 2 rfl) ?_
  refine vp_callSi (W.runV (As := [.int (nI a), .int (nI b)]) (rest := [.ref (q 0)]) S (c_X1_areArms (x := nI a) (y := nI b)) (cwV 2 hts gX1_crossRatio_X1_areArms rfl rfl rfl hdX1_areArms ⟨Nat.le_of_ble_eq_true rfl, Nat.le_of_ble_eq_true rfl⟩) (preV hK hP rfl rfl) rfl rfl hl.1 rfl (lv_room (Nat.le_of_ble_eq_true rfl)) dX1_crossRatio_4 ⟨Nat.zero_le _, Nat.zero_le _⟩) (fun r_1 er_1 => ?_)
  subst er_1
  refine w_ifBeq (tgt := 24) hx hb dX1_crossRatio_7 (by decide) (fun h7_0 => absurd ((armB2_t hn ha hb')) (by rw [h7_0]; decide)) (fun h7_0 => ?_)
  refine lv_aload_n hx hb dX1_crossRatio_10 rfl (lv_at hl 0 rfl) ?_
  refine lv_iload_n hx hb dX1_crossRatio_11 rfl (lv_at hl 3 rfl) ?_
  refine lv_iload hx hb dX1_crossRatio_12 (lv_at hl 4 rfl) ?_
  refine vp_callSi (W.runV (As := [.int (nI c), .int (nI d)]) (rest := [.ref (q 0)]) S (c_X1_areArms (x := nI c) (y := nI d)) (cwV 2 hts gX1_crossRatio_X1_areArms rfl rfl rfl hdX1_areArms ⟨Nat.le_of_ble_eq_true rfl, Nat.le_of_ble_eq_true rfl⟩) (preV hK hP rfl rfl) rfl rfl hl.1 rfl (lv_room (Nat.le_of_ble_eq_true rfl)) dX1_crossRatio_14 ⟨Nat.zero_le _, Nat.zero_le _⟩) (fun r_2 er_2 => ?_)
  subst er_2
  refine w_ifBeq (tgt := 24) hx hb dX1_crossRatio_17 (by decide) (fun h17_1 => absurd ((armB2_t hn hc hd)) (by rw [h17_1]; decide)) (fun h17_1 => ?_)
  refine lv_iconst (v := nI 0) hx hb dX1_crossRatio_20 (by decide) ?_
  refine lv_goto (tgt := 25) hx hb dX1_crossRatio_21 (by decide) ?_
  refine w_putM (v := .int (nI 0)) (ty := .int) S in_w hK hP (wD_of hq rfl) hS rfl 0 (by decide) fl_45 rfl (by decide +kernel) rfl rfl (Nat.le_of_ble_eq_true rfl) rfl dX1_crossRatio_25 (fun H locs hP hS => ?_)
  have hP : va_P D cls2 (mW q cI cD (nI 0) (nI n) rC hh fi fo fw fe fr ff fp fl fc) H := hP
  refine lv_aload_n hx hb dX1_crossRatio_28 rfl (lv_at hl 0 rfl) ?_
  refine w_getM (own := RX1) (v := .int (nI 0)) S in_w hK hP rfl 0 (by decide) fl_45 rfl rfl dX1_crossRatio_29 ?_
  refine lv_if_le (tgt := 37) hx hb dX1_crossRatio_32 (by decide) (fun h32_2 => ?_) (fun h32_2 => absurd (by decide) h32_2)
  refine lv_aload_n hx hb dX1_crossRatio_37 rfl (lv_at hl 0 rfl) ?_
  refine w_getM (own := RX1) (v := .ref (q 4)) S in_w hK hP rfl 5 (by decide) fl_23 rfl rfl dX1_crossRatio_38 ?_
  refine lv_bipush (v := nI 6) hx hb dX1_crossRatio_41 (by decide) ?_
  refine lv_iload_n hx hb dX1_crossRatio_43 rfl (lv_at hl 1 rfl) ?_
  refine w_imulL (N := 6) (y := 0) hx hb rfl dX1_crossRatio_44 ?_
  refine lv_iload_n hx hb dX1_crossRatio_45 rfl (lv_at hl 3 rfl) ?_
  refine w_iadd hx hb dX1_crossRatio_46 ?_
  refine w_dald hx hb hK hP 4 1 rfl rfl (j := 6 * a + c) (v := e a c) (hE a c (by omega) (by omega)) (by omega) (by decide) dX1_crossRatio_47 ?_
  refine lv_aload_n hx hb dX1_crossRatio_48 rfl (lv_at hl 0 rfl) ?_
  refine w_getM (own := RX1) (v := .ref (q 4)) S in_w hK hP rfl 5 (by decide) fl_23 rfl rfl dX1_crossRatio_49 ?_
  refine lv_bipush (v := nI 6) hx hb dX1_crossRatio_52 (by decide) ?_
  refine lv_iload_n hx hb dX1_crossRatio_54 rfl (lv_at hl 2 rfl) ?_
  refine w_imulL (N := 6) (y := 0) hx hb rfl dX1_crossRatio_55 ?_
  refine lv_iload hx hb dX1_crossRatio_56 (lv_at hl 4 rfl) ?_
  refine w_iadd hx hb dX1_crossRatio_58 ?_
  refine w_dald hx hb hK hP 4 1 rfl rfl (j := 6 * b + d) (v := e b d) (hE b d (by omega) (by omega)) (by omega) (by decide) dX1_crossRatio_59 ?_
  refine lv_dmul hx hb dX1_crossRatio_60 h1 ?_
  refine lv_dstore (lv' := [(5, .double (FP.dmul (e a c) (e b d))), (0, .ref (q 0)), (1, .int (nI a)), (2, .int (nI b)), (3, .int (nI c)), (4, .int (nI d))]) hx hb dX1_crossRatio_61 hl (by decide) rfl (fun ls hl => ?_)
  refine lv_aload_n hx hb dX1_crossRatio_63 rfl (lv_at hl 1 rfl) ?_
  refine w_getM (own := RX1) (v := .ref (q 4)) S in_w hK hP rfl 5 (by decide) fl_23 rfl rfl dX1_crossRatio_64 ?_
  refine lv_bipush (v := nI 6) hx hb dX1_crossRatio_67 (by decide) ?_
  refine lv_iload_n hx hb dX1_crossRatio_69 rfl (lv_at hl 2 rfl) ?_
  refine w_imulL (N := 6) (y := 0) hx hb rfl dX1_crossRatio_70 ?_
  refine lv_iload hx hb dX1_crossRatio_71 (lv_at hl 5 rfl) ?_
  refine w_iadd hx hb dX1_crossRatio_73 ?_
  refine w_dald hx hb hK hP 4 1 rfl rfl (j := 6 * a + d) (v := e a d) (hE a d (by omega) (by omega)) (by omega) (by decide) dX1_crossRatio_74 ?_
  refine lv_aload_n hx hb dX1_crossRatio_75 rfl (lv_at hl 1 rfl) ?_
  refine w_getM (own := RX1) (v := .ref (q 4)) S in_w hK hP rfl 5 (by decide) fl_23 rfl rfl dX1_crossRatio_76 ?_
  refine lv_bipush (v := nI 6) hx hb dX1_crossRatio_79 (by decide) ?_
  refine lv_iload_n hx hb dX1_crossRatio_81 rfl (lv_at hl 3 rfl) ?_
  refine w_imulL (N := 6) (y := 0) hx hb rfl dX1_crossRatio_82 ?_
  refine lv_iload_n hx hb dX1_crossRatio_83 rfl (lv_at hl 4 rfl) ?_
  refine w_iadd hx hb dX1_crossRatio_84 ?_
  refine w_dald hx hb hK hP 4 1 rfl rfl (j := 6 * b + c) (v := e b c) (hE b c (by omega) (by omega)) (by omega) (by decide) dX1_crossRatio_85 ?_
  refine lv_dmul hx hb dX1_crossRatio_86 h2 ?_
  refine lv_dstore (lv' := [(7, .double (FP.dmul (e a d) (e b c))), (5, .double (FP.dmul (e a c) (e b d))), (0, .ref (q 0)), (1, .int (nI a)), (2, .int (nI b)), (3, .int (nI c)), (4, .int (nI d))]) hx hb dX1_crossRatio_87 hl (by decide) rfl (fun ls hl => ?_)
  refine lv_aload_n hx hb dX1_crossRatio_89 rfl (lv_at hl 2 rfl) ?_
  refine lv_dload hx hb dX1_crossRatio_90 (lv_at hl 0 rfl) ?_
  refine lv_dconst0 hx hb dX1_crossRatio_92 ?_
  refine w_dgt (tgt := 101) hx hb dX1_crossRatio_93 dX1_crossRatio_94 (by decide) (fun h93_3 => ?_) (fun h93_3 => absurd (hs) (by rw [h93_3]; decide))
  refine lv_iconst (v := nI 2) hx hb dX1_crossRatio_101 (by decide) ?_
  refine w_putM (v := .int (nI 2)) (ty := .int) S in_w hK hP (wD_of hq rfl) hS rfl 0 (by decide) fl_45 rfl (by decide +kernel) rfl rfl (Nat.le_of_ble_eq_true rfl) rfl dX1_crossRatio_102 (fun H locs hP hS => ?_)
  have hP : va_P D cls2 (mW q cI cD (nI 2) (nI n) rC hh fi fo fw fe fr ff fp fl fc) H := hP
  refine lv_aload_n hx hb dX1_crossRatio_105 rfl (lv_at hl 2 rfl) ?_
  refine w_getM (own := RX1) (v := .int (nI 2)) S in_w hK hP rfl 0 (by decide) fl_45 rfl rfl dX1_crossRatio_106 ?_
  refine lv_if_le (tgt := 116) hx hb dX1_crossRatio_109 (by decide) (fun h109_4 => absurd h109_4 (by decide)) (fun h109_4 => ?_)
  refine lv_dconst0 hx hb dX1_crossRatio_112 ?_
  refine lv_goto (tgt := 121) hx hb dX1_crossRatio_113 (by decide) ?_
  subst hQ
  exact W.dret hx hb hr (fun t ht hWm => ⟨⟨_, (), rfl, trivial, (show va_P D cls2 _ t.heap from by rw [ht]; exact hP)⟩, hS.F ht⟩) hS.2.2 dX1_crossRatio_121
abbrev rX1_busiest : Room := { frames := 0, cells := 0, slots := 0, locals := 0 }
theorem hdX1_busiest : yX1_busiest.cls = RX1 ∧ yX1_busiest.cls ≠ "java/lang/invoke/MethodHandle" ∧ yX1_busiest.cls ≠ "java/lang/invoke/VarHandle" ∧ (parseMethodDescriptor yX1_busiest.desc).map (fun d => d.parameters.length) = some 0 := by decide +kernel
set_option maxHeartbeats 4000000 in
set_option maxRecDepth 100000 in
theorem c_X1_busiest {l : Launch} {D : va_G} {q : Nat → Nat} {cI cD : ClassId} {th rC : Int32} {hh : Int64} {fi fo fw : Nat → Int32} {fe : Nat → UInt64} {fr : Nat → Int32} {ff : Nat → UInt64} {fp fl fc : Nat → Int32} {n : Nat} (hn : 3 ≤ n ∧ n ≤ 6) {e : Nat → Nat → UInt64} (hE : ag2 n fe e)  : Met l yX1_busiest wsX1_busiest rX1_busiest (va_Pc [.ref (q 0)] (wPre D (tys2 cI cD) (mW q cI cD th (nI n) rC hh fi fo fw fe fr ff fp fl fc))) (vp_Si (fun r => r = (busO e n n).1)) 0 0 (fun _ => False) := by
  refine met_intro (cc := cX1_busiest) (maxL := 8) (ret := (some .int)) (own := RX1) (by decide) rfl rfl (Nat.le_of_ble_eq_true rfl) ?_
  intro pp ee ss mm args below meth cd Q ls hQ S hr hlocks hv hB hl
  obtain ⟨hx, hb, hml, hown, hts⟩ := id S
  obtain ⟨hP, hK⟩ := hB
  have in_w : ∀ w ∈ wsX10, w ∈ wsX1_busiest := by decide +kernel
  have fl_7 : Cond.fieldLink RX1 7 RX1 (TX1 1).2.1 (TX1 1).2.2.1 ∈ wsX1_busiest := by decide +kernel
  have fl_23 : Cond.fieldLink RX1 23 RX1 (TX1 5).2.1 (TX1 5).2.2.1 ∈ wsX1_busiest := by decide +kernel
  have hl : lv_has ls 8 [(0, .ref (q 0))] := hl
  refine lv_iconst (v := -1) hx hb dX1_busiest_0 (by decide) ?_
  refine lv_istore_n (lv' := [(1, .int (-1)), (0, .ref (q 0))]) hx hb dX1_busiest_1 rfl hl (by decide) rfl (fun ls hl => ?_)
  refine lv_dconst0 hx hb dX1_busiest_2 ?_
  refine lv_dstore_n (lv' := [(2, .double FP.dconst0), (1, .int (-1)), (0, .ref (q 0))]) hx hb dX1_busiest_3 rfl hl (by decide) rfl (fun ls hl => ?_)
  refine lv_iconst (v := nI 0) hx hb dX1_busiest_4 (by decide) ?_
  refine lv_istore (lv' := [(4, .int (nI 0)), (2, .double FP.dconst0), (1, .int (-1)), (0, .ref (q 0))]) hx hb dX1_busiest_5 hl (by decide) rfl (fun ls hl => ?_)
  have lp7 : ∀ (j i : Nat), i + j = n → ∀ ls : Array Slot, lv_has ls 8 [(0, .ref (q 0)), (1, .int ((busO e n i).1)), (2, .double ((busO e n i).2)), (4, .int (nI i))] → W pp l ee rX1_busiest ss mm args below meth cd ss.heap [] 0 0 Q (F0 mm 7 ls []) := by
    intro j
    induction j with
    | zero =>
      intro i hk_i ls hl
      have hke_i : n = i := by omega
      subst hke_i
      refine lv_iload hx hb dX1_busiest_7 (lv_at hl 3 rfl) ?_
      refine lv_aload_n hx hb dX1_busiest_9 rfl (lv_at hl 0 rfl) ?_
      refine w_getM (own := RX1) (v := .int (nI n)) S in_w hK hP rfl 1 (by decide) fl_7 rfl rfl dX1_busiest_10 ?_
      refine lv_icmp_ge (tgt := 89) hx hb dX1_busiest_13 (by decide) (fun h13_0 => ?_) (fun h13_0 => absurd (Int32.le_refl _) h13_0)
      refine lv_iload_n hx hb dX1_busiest_89 rfl (lv_at hl 1 rfl) ?_
      subst hQ
      exact W.iret hx hb hr (fun t ht hWm => ⟨_, rfl, rfl, ht⟩) (fun q h => absurd h List.not_mem_nil) dX1_busiest_90
    | succ j ih =>
      intro i hk_i ls hl
      have hlt_i : i < n := by omega
      refine lv_iload hx hb dX1_busiest_7 (lv_at hl 3 rfl) ?_
      refine lv_aload_n hx hb dX1_busiest_9 rfl (lv_at hl 0 rfl) ?_
      refine w_getM (own := RX1) (v := .int (nI n)) S in_w hK hP rfl 1 (by decide) fl_7 rfl rfl dX1_busiest_10 ?_
      refine lv_icmp_ge (tgt := 89) hx hb dX1_busiest_13 (by decide) (fun h13_0 => absurd h13_0 (nI_ge hlt_i (by omega))) (fun h13_0 => ?_)
      refine lv_iconst (v := nI 0) hx hb dX1_busiest_16 (by decide) ?_
      refine lv_istore (lv' := [(5, .int (nI 0)), (0, .ref (q 0)), (1, .int ((busO e n i).1)), (2, .double ((busO e n i).2)), (4, .int (nI i))]) hx hb dX1_busiest_17 hl (by decide) rfl (fun ls hl => ?_)
      have lp19 : ∀ (j k : Nat), k + j = n → ∀ ls : Array Slot, lv_has ls 8 [(0, .ref (q 0)), (1, .int ((busI e i k (busO e n i)).1)), (2, .double ((busI e i k (busO e n i)).2)), (4, .int (nI i)), (5, .int (nI k))] → W pp l ee rX1_busiest ss mm args below meth cd ss.heap [] 0 0 Q (F0 mm 19 ls []) := by
        intro j
        induction j with
        | zero =>
          intro k hk_k ls hl
          have hke_k : n = k := by omega
          subst hke_k
          refine lv_iload hx hb dX1_busiest_19 (lv_at hl 4 rfl) ?_
          refine lv_aload_n hx hb dX1_busiest_21 rfl (lv_at hl 0 rfl) ?_
          refine w_getM (own := RX1) (v := .int (nI n)) S in_w hK hP rfl 1 (by decide) fl_7 rfl rfl dX1_busiest_22 ?_
          refine lv_icmp_ge (tgt := 83) hx hb dX1_busiest_25 (by decide) (fun h25_1 => ?_) (fun h25_1 => absurd (Int32.le_refl _) h25_1)
          refine lv_iinc (v := nI (i + 1)) (lv' := [(4, .int (nI (i + 1))), (0, .ref (q 0)), (1, .int ((busI e i n (busO e n i)).1)), (2, .double ((busI e i n (busO e n i)).2)), (5, .int (nI n))]) hx hb dX1_busiest_83 hl (k := 3) rfl (by rw [show Int32.ofInt 1 = nI 1 from by decide, nI_add]) (by decide) rfl (fun ls hl => ?_)
          refine lv_goto (tgt := 7) hx hb dX1_busiest_86 (by decide) ?_
          have eq_1 : (busO e n (i + 1)).1 = (busI e i n (busO e n i)).1 := by rfl
          have eq_2 : (busO e n (i + 1)).2 = (busI e i n (busO e n i)).2 := by rfl
          have hl : lv_has ls 8 [(4, .int (nI (i + 1))), (0, .ref (q 0)), (1, .int ((busO e n (i + 1)).1)), (2, .double ((busO e n (i + 1)).2)), (5, .int (nI n))] := by first | exact hl | (rw [eq_1, eq_2]; exact hl)
          exact ih (i + 1) (by omega) ls (lv_sub hl [1, 2, 3, 0] rfl)
        | succ j ih =>
          intro k hk_k ls hl
          have hlt_k : k < n := by omega
          refine lv_iload hx hb dX1_busiest_19 (lv_at hl 4 rfl) ?_
          refine lv_aload_n hx hb dX1_busiest_21 rfl (lv_at hl 0 rfl) ?_
          refine w_getM (own := RX1) (v := .int (nI n)) S in_w hK hP rfl 1 (by decide) fl_7 rfl rfl dX1_busiest_22 ?_
          refine lv_icmp_ge (tgt := 83) hx hb dX1_busiest_25 (by decide) (fun h25_1 => absurd h25_1 (nI_ge hlt_k (by omega))) (fun h25_1 => ?_)
          refine lv_aload_n hx hb dX1_busiest_28 rfl (lv_at hl 0 rfl) ?_
          refine w_getM (own := RX1) (v := .ref (q 4)) S in_w hK hP rfl 5 (by decide) fl_23 rfl rfl dX1_busiest_29 ?_
          refine lv_bipush (v := nI 6) hx hb dX1_busiest_32 (by decide) ?_
          refine lv_iload hx hb dX1_busiest_34 (lv_at hl 3 rfl) ?_
          refine w_imulL (N := 6) (y := 0) hx hb rfl dX1_busiest_36 ?_
          refine lv_iload hx hb dX1_busiest_37 (lv_at hl 4 rfl) ?_
          refine w_iadd hx hb dX1_busiest_39 ?_
          refine w_dald hx hb hK hP 4 1 rfl rfl (j := 6 * i + k) (v := e i k) (hE i k (by omega) (by omega)) (by omega) (by decide) dX1_busiest_40 ?_
          refine lv_dstore (lv' := [(6, .double (e i k)), (0, .ref (q 0)), (1, .int ((busI e i k (busO e n i)).1)), (2, .double ((busI e i k (busO e n i)).2)), (4, .int (nI i)), (5, .int (nI k))]) hx hb dX1_busiest_41 hl (by decide) rfl (fun ls hl => ?_)
          refine lv_dload hx hb dX1_busiest_43 (lv_at hl 0 rfl) ?_
          refine lv_dload_n hx hb dX1_busiest_45 rfl (lv_at hl 3 rfl) ?_
          refine w_dgt (tgt := 61) hx hb dX1_busiest_46 dX1_busiest_47 (by decide) (fun h46_2 => ?_) (fun h46_2 => ?_)
          · refine lv_iload_n hx hb dX1_busiest_61 rfl (lv_at hl 2 rfl) ?_
            refine lv_istore_n (lv' := [(1, .int ((busI e i k (busO e n i)).1)), (6, .double (e i k)), (0, .ref (q 0)), (2, .double ((busI e i k (busO e n i)).2)), (4, .int (nI i)), (5, .int (nI k))]) hx hb dX1_busiest_62 rfl hl (by decide) rfl (fun ls hl => ?_)
            refine lv_dload hx hb dX1_busiest_63 (lv_at hl 1 rfl) ?_
            refine lv_dload_n hx hb dX1_busiest_65 rfl (lv_at hl 3 rfl) ?_
            refine w_dgt (tgt := 75) hx hb dX1_busiest_66 dX1_busiest_67 (by decide) (fun h66_3 => ?_) (fun h66_3 => absurd (h46_2) (by rw [h66_3]; decide))
            refine lv_dload_n hx hb dX1_busiest_75 rfl (lv_at hl 3 rfl) ?_
            refine lv_dstore_n (lv' := [(2, .double ((busI e i k (busO e n i)).2)), (1, .int ((busI e i k (busO e n i)).1)), (6, .double (e i k)), (0, .ref (q 0)), (4, .int (nI i)), (5, .int (nI k))]) hx hb dX1_busiest_76 rfl hl (by decide) rfl (fun ls hl => ?_)
            refine lv_iinc (v := nI (k + 1)) (lv' := [(5, .int (nI (k + 1))), (2, .double ((busI e i k (busO e n i)).2)), (1, .int ((busI e i k (busO e n i)).1)), (6, .double (e i k)), (0, .ref (q 0)), (4, .int (nI i))]) hx hb dX1_busiest_77 hl (k := 5) rfl (by rw [show Int32.ofInt 1 = nI 1 from by decide, nI_add]) (by decide) rfl (fun ls hl => ?_)
            refine lv_goto (tgt := 19) hx hb dX1_busiest_80 (by decide) ?_
            have eq_3 : (busI e i (k + 1) (busO e n i)).1 = (busI e i k (busO e n i)).1 := by (unfold busI; rw [itN_succ]; unfold busI at h46_2 h66_3; simp only [h66_3, reduceIte, Bool.false_eq_true])
            have eq_4 : (busI e i (k + 1) (busO e n i)).2 = (busI e i k (busO e n i)).2 := by (unfold busI; rw [itN_succ]; unfold busI at h46_2 h66_3; simp only [h66_3, reduceIte, Bool.false_eq_true])
            have hl : lv_has ls 8 [(5, .int (nI (k + 1))), (2, .double ((busI e i (k + 1) (busO e n i)).2)), (1, .int ((busI e i (k + 1) (busO e n i)).1)), (6, .double (e i k)), (0, .ref (q 0)), (4, .int (nI i))] := by first | exact hl | (rw [eq_3, eq_4]; exact hl)
            exact ih (k + 1) (by omega) ls (lv_sub hl [4, 2, 1, 5, 0] rfl)
          · refine lv_bipush (v := nI 10) hx hb dX1_busiest_50 (by decide) ?_
            refine lv_iload hx hb dX1_busiest_52 (lv_at hl 4 rfl) ?_
            refine w_imulL (N := 10) (y := 0) hx hb rfl dX1_busiest_54 ?_
            refine lv_iload hx hb dX1_busiest_55 (lv_at hl 5 rfl) ?_
            refine w_iadd hx hb dX1_busiest_57 ?_
            refine lv_goto (tgt := 62) hx hb dX1_busiest_58 (by decide) ?_
            refine lv_istore_n (lv' := [(1, .int (nI (10 * i + k))), (6, .double (e i k)), (0, .ref (q 0)), (2, .double ((busI e i k (busO e n i)).2)), (4, .int (nI i)), (5, .int (nI k))]) hx hb dX1_busiest_62 rfl hl (by decide) rfl (fun ls hl => ?_)
            refine lv_dload hx hb dX1_busiest_63 (lv_at hl 1 rfl) ?_
            refine lv_dload_n hx hb dX1_busiest_65 rfl (lv_at hl 3 rfl) ?_
            refine w_dgt (tgt := 75) hx hb dX1_busiest_66 dX1_busiest_67 (by decide) (fun h66_3 => absurd (h46_2) (by rw [h66_3]; decide)) (fun h66_3 => ?_)
            refine lv_dload hx hb dX1_busiest_70 (lv_at hl 1 rfl) ?_
            refine lv_goto (tgt := 76) hx hb dX1_busiest_72 (by decide) ?_
            refine lv_dstore_n (lv' := [(2, .double (e i k)), (1, .int (nI (10 * i + k))), (6, .double (e i k)), (0, .ref (q 0)), (4, .int (nI i)), (5, .int (nI k))]) hx hb dX1_busiest_76 rfl hl (by decide) rfl (fun ls hl => ?_)
            refine lv_iinc (v := nI (k + 1)) (lv' := [(5, .int (nI (k + 1))), (2, .double (e i k)), (1, .int (nI (10 * i + k))), (6, .double (e i k)), (0, .ref (q 0)), (4, .int (nI i))]) hx hb dX1_busiest_77 hl (k := 5) rfl (by rw [show Int32.ofInt 1 = nI 1 from by decide, nI_add]) (by decide) rfl (fun ls hl => ?_)
            refine lv_goto (tgt := 19) hx hb dX1_busiest_80 (by decide) ?_
            have eq_5 : (busI e i (k + 1) (busO e n i)).1 = nI (10 * i + k) := by (unfold busI; rw [itN_succ]; unfold busI at h46_2 h66_3; simp only [h66_3, reduceIte, Bool.false_eq_true])
            have eq_6 : (busI e i (k + 1) (busO e n i)).2 = e i k := by (unfold busI; rw [itN_succ]; unfold busI at h46_2 h66_3; simp only [h66_3, reduceIte, Bool.false_eq_true])
            have hl : lv_has ls 8 [(5, .int (nI (k + 1))), (2, .double ((busI e i (k + 1) (busO e n i)).2)), (1, .int ((busI e i (k + 1) (busO e n i)).1)), (6, .double (e i k)), (0, .ref (q 0)), (4, .int (nI i))] := by first | exact hl | (rw [eq_5, eq_6]; exact hl)
            exact ih (k + 1) (by omega) ls (lv_sub hl [4, 2, 1, 5, 0] rfl)
      exact lp19 (n - 0) 0 (by omega) ls (lv_sub hl [1, 2, 3, 4, 0] rfl)
  exact lp7 (n - 0) 0 (by omega) ls (lv_sub hl [3, 2, 1, 0] rfl)
abbrev rX1_busiestTurn : Room := { frames := 1, cells := 0, slots := 0, locals := 27 }
theorem hdX1_busiestTurn : yX1_busiestTurn.cls = RX1 ∧ yX1_busiestTurn.cls ≠ "java/lang/invoke/MethodHandle" ∧ yX1_busiestTurn.cls ≠ "java/lang/invoke/VarHandle" ∧ (parseMethodDescriptor yX1_busiestTurn.desc).map (fun d => d.parameters.length) = some 0 := by decide +kernel
set_option maxHeartbeats 4000000 in
set_option maxRecDepth 100000 in
theorem c_X1_busiestTurn {l : Launch} {D : va_G} {q : Nat → Nat} {cI cD : ClassId} {th rC : Int32} {hh : Int64} {fi fo fw : Nat → Int32} {fe : Nat → UInt64} {fr : Nat → Int32} {ff : Nat → UInt64} {fp fl fc : Nat → Int32} {n : Nat} (hn : 3 ≤ n ∧ n ≤ 6) {e : Nat → Nat → UInt64} (hE : ag2 n fe e)  (hq : qD q) : Met l yX1_busiestTurn wsX1_busiestTurn rX1_busiestTurn (va_Pc [.ref (q 0)] (wPre D (tys2 cI cD) (mW q cI cD th (nI n) rC hh fi fo fw fe fr ff fp fl fc))) (va_Qi (fun r (u : Unit) => r = (busO e n n).1) (fun u t => va_P D cls2 (mW q cI cD (nI 0) (nI n) rC hh fi fo fw fe fr ff fp fl fc) t.heap) (qA q)) 0 0 (qA q) := by
  refine met_intro (cc := cX1_busiestTurn) (maxL := 1) (ret := (some .int)) (own := RX1) (by decide) rfl rfl (Nat.le_of_ble_eq_true rfl) ?_
  intro pp ee ss mm args below meth cd Q ls hQ S hr hlocks hv hB hl
  obtain ⟨hx, hb, hml, hown, hts⟩ := id S
  obtain ⟨hP, hK⟩ := hB
  have in_w : ∀ w ∈ wsX10, w ∈ wsX1_busiestTurn := by decide +kernel
  have fl_45 : Cond.fieldLink RX1 45 RX1 (TX1 0).2.1 (TX1 0).2.2.1 ∈ wsX1_busiestTurn := by decide +kernel
  have hS : va_S (qA q) ss.heap ss.heap [] := va_S.rf
  generalize hHg : ss.heap = H at hP
  have hS : va_S (qA q) ss.heap H [] := by rw [← hHg]; exact hS
  suffices hgo : ∀ locs : List Loc, va_S (qA q) ss.heap H locs → W pp l ee rX1_busiestTurn ss mm args below meth cd H locs 0 0 Q (F0 mm 0 ls []) by
    first | exact hgo [] hS | (rw [hHg]; exact hgo [] hS)
  clear hS
  intro locs hS
  have hl : lv_has ls 1 [(0, .ref (q 0))] := hl
  refine lv_aload_n hx hb dX1_busiestTurn_0 rfl (lv_at hl 0 rfl) ?_
  refine lv_iconst (v := nI 0) hx hb dX1_busiestTurn_1 (by decide) ?_
  refine w_putM (v := .int (nI 0)) (ty := .int) S in_w hK hP (wD_of hq rfl) hS rfl 0 (by decide) fl_45 rfl (by decide +kernel) rfl rfl (Nat.le_of_ble_eq_true rfl) rfl dX1_busiestTurn_2 (fun H locs hP hS => ?_)
  have hP : va_P D cls2 (mW q cI cD (nI 0) (nI n) rC hh fi fo fw fe fr ff fp fl fc) H := hP
  refine lv_aload_n hx hb dX1_busiestTurn_5 rfl (lv_at hl 0 rfl) ?_
  refine vp_callSi (W.runV (As := []) (rest := []) S (c_X1_busiest hn hE) (cwV 0 hts gX1_busiestTurn_X1_busiest rfl rfl rfl hdX1_busiest ⟨Nat.le_of_ble_eq_true rfl, Nat.le_of_ble_eq_true rfl⟩) (preV hK hP rfl rfl) rfl rfl hl.1 rfl (lv_room (Nat.le_of_ble_eq_true rfl)) dX1_busiestTurn_6 ⟨Nat.zero_le _, Nat.zero_le _⟩) (fun r_1 er_1 => ?_)
  subst er_1
  subst hQ
  exact W.iret hx hb hr (fun t ht hWm => ⟨⟨_, (), rfl, rfl, (show va_P D cls2 _ t.heap from by rw [ht]; exact hP)⟩, hS.F ht⟩) hS.2.2 dX1_busiestTurn_9
