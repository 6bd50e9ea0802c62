abbrev rX0_carryOutRowStep : Room := { frames := 2, cells := 0, slots := 0, locals := 45 }
theorem hdX0_carryOutRowStep : yX0_carryOutRowStep.cls = RX0 ∧ yX0_carryOutRowStep.cls ≠ "java/lang/invoke/MethodHandle" ∧ yX0_carryOutRowStep.cls ≠ "java/lang/invoke/VarHandle" ∧ (parseMethodDescriptor yX0_carryOutRowStep.desc).map (fun d => d.parameters.length) = some 1 := by decide +kernel
set_option maxHeartbeats 4000000 in
set_option maxRecDepth 100000 in
theorem c_X0_carryOutRowStep {l : Launch} {D : va_G} {q : Nat → Nat} {cI cD : ClassId} {rC : Int32} {fi fo fw : Nat → Int32} {fe : Nat → UInt64} {ft fr fp fl : Nat → Int32} {ff : Nat → UInt64} {n : Nat} (hn : 3 ≤ n ∧ n ≤ 6) {inf : Nat → Int32} (hI : ag1 n fi inf) {e : Nat → Nat → UInt64} (hE : ag2 n fe e) {i : Nat} (hi : i < n) (ho : okRS n inf e i) (hq : qD q) : Met l yX0_carryOutRowStep wsX0_carryOutRowStep rX0_carryOutRowStep (va_Pc [.ref (q 0), .int (nI i)] (wPre D (tys2 cI cD) (cW q cI cD (nI n) rC fi fo fw fe ft fr fp fl ff))) (va_Qv (fun (u : Nat → UInt64) => ag2 n u (rowSt n inf e i)) (fun u t => va_P D cls2 (cW q cI cD (nI n) rC fi fo fw u ft fr fp fl ff) t.heap) (qA q)) 0 0 (qA q) := by
  refine met_intro (cc := cX0_carryOutRowStep) (maxL := 7) (ret := none) (own := RX0) (by decide) rfl rfl (Nat.le_of_ble_eq_true rfl) ?_
  intro pp ee ss mm args below meth cd Q ls hQ S hr hlocks hv hB hl
  obtain ⟨hx, hb, hml, hown, hts⟩ := id S
  obtain ⟨hP, hK⟩ := hB
  have in_w : ∀ w ∈ wsX00, w ∈ wsX0_carryOutRowStep := by decide +kernel
  have fl_9 : Cond.fieldLink RX0 9 RX0 (TX0 0).2.1 (TX0 0).2.2.1 ∈ wsX0_carryOutRowStep := by decide +kernel
  have fl_19 : Cond.fieldLink RX0 19 RX0 (TX0 3).2.1 (TX0 3).2.2.1 ∈ wsX0_carryOutRowStep := by decide +kernel
  have fl_46 : Cond.fieldLink RX0 46 RX0 (TX0 9).2.1 (TX0 9).2.2.1 ∈ wsX0_carryOutRowStep := by decide +kernel
  have hS : va_S (qA q) ss.heap ss.heap [] := va_S.rf
  generalize hHg : ss.heap = H at hP
  have hS : va_S (qA q) ss.heap H [] := by rw [← hHg]; exact hS
  suffices hgo : ∀ locs : List Loc, va_S (qA q) ss.heap H locs → W pp l ee rX0_carryOutRowStep ss mm args below meth cd H locs 0 0 Q (F0 mm 0 ls []) by
    first | exact hgo [] hS | (rw [hHg]; exact hgo [] hS)
  clear hS
  intro locs hS
  have hl : lv_has ls 7 [(0, .ref (q 0)), (1, .int (nI i))] := hl
  refine lv_aload_n hx hb dX0_carryOutRowStep_0 rfl (lv_at hl 0 rfl) ?_
  refine lv_iload_n hx hb dX0_carryOutRowStep_1 rfl (lv_at hl 1 rfl) ?_
  refine vp_callSd (W.runV (As := [.int (nI i)]) (rest := []) S (c_X0_rowSum hn hE (i := i) (by omega) ho.1) (cwV 1 hts gX0_carryOutRowStep_X0_rowSum rfl rfl rfl hdX0_rowSum ⟨Nat.le_of_ble_eq_true rfl, Nat.le_of_ble_eq_true rfl⟩) (preV hK hP rfl rfl) rfl rfl hl.1 rfl (lv_room (Nat.le_of_ble_eq_true rfl)) dX0_carryOutRowStep_2 ⟨Nat.zero_le _, Nat.zero_le _⟩) (fun r_1 er_1 => ?_)
  subst er_1
  refine lv_dstore_n (lv' := [(2, .double (rowS e n i)), (0, .ref (q 0)), (1, .int (nI i))]) hx hb dX0_carryOutRowStep_5 rfl hl (by decide) rfl (fun ls hl => ?_)
  refine lv_dload_n hx hb dX0_carryOutRowStep_6 rfl (lv_at hl 0 rfl) ?_
  refine lv_dconst0 hx hb dX0_carryOutRowStep_7 ?_
  refine w_dgt (tgt := 57) hx hb dX0_carryOutRowStep_8 dX0_carryOutRowStep_9 (by decide) (fun h8_0 => ?_) (fun h8_0 => ?_)
  · subst hQ
    exact W.vret hx hb hr (fun t ht hWm => ⟨⟨fe, rfl, (by unfold rowSt; rw [if_neg (by rw [h8_0]; decide)]; exact hE), (show va_P D cls2 _ t.heap from by rw [ht]; exact hP)⟩, hS.F ht⟩) hS.2.2 dX0_carryOutRowStep_57
  · refine lv_aload_n hx hb dX0_carryOutRowStep_12 rfl (lv_at hl 1 rfl) ?_
    refine w_getC (own := RX0) (v := .ref (q 1)) S in_w hK hP rfl 0 (by decide) fl_9 rfl rfl dX0_carryOutRowStep_13 ?_
    refine lv_iload_n hx hb dX0_carryOutRowStep_16 rfl (lv_at hl 2 rfl) ?_
    refine w_iald hx hb hK hP 1 0 rfl rfl (j := i) (v := inf i) (hI i (by omega)) (by omega) (by decide) dX0_carryOutRowStep_17 ?_
    refine lv_i2d hx hb dX0_carryOutRowStep_18 ?_
    refine lv_dload_n hx hb dX0_carryOutRowStep_19 rfl (lv_at hl 0 rfl) ?_
    refine lv_ddiv hx hb dX0_carryOutRowStep_20 (ho.2 h8_0).1 ?_
    refine lv_dstore (lv' := [(4, .double (FP.ddiv (FP.i2d (inf i)) (rowS e n i))), (2, .double (rowS e n i)), (0, .ref (q 0)), (1, .int (nI i))]) hx hb dX0_carryOutRowStep_21 hl (by decide) rfl (fun ls hl => ?_)
    refine lv_iconst (v := nI 0) hx hb dX0_carryOutRowStep_23 (by decide) ?_
    refine lv_istore (lv' := [(6, .int (nI 0)), (4, .double (FP.ddiv (FP.i2d (inf i)) (rowS e n i))), (2, .double (rowS e n i)), (0, .ref (q 0)), (1, .int (nI i))]) hx hb dX0_carryOutRowStep_24 hl (by decide) rfl (fun ls hl => ?_)
    have lp26 : ∀ (j k : Nat), k + j = n → ∀ (fe : Nat → UInt64), ∀ (H : Heap) (locs : List Loc), ag2 n fe (rowM (rowF n inf e i) i k e) → va_P D cls2 (cW q cI cD (nI n) rC fi fo fw fe ft fr fp fl ff) H → va_S (qA q) ss.heap H locs → ∀ ls : Array Slot, lv_has ls 7 [(0, .ref (q 0)), (1, .int (nI i)), (2, .double (rowS e n i)), (4, .double (FP.ddiv (FP.i2d (inf i)) (rowS e n i))), (6, .int (nI k))] → W pp l ee rX0_carryOutRowStep ss mm args below meth cd H locs 0 0 Q (F0 mm 26 ls []) := by
      intro j
      induction j with
      | zero =>
        intro k hk_k fe H locs hg_fe hP hS ls hl
        have hke_k : n = k := by omega
        subst hke_k
        refine lv_iload hx hb dX0_carryOutRowStep_26 (lv_at hl 4 rfl) ?_
        refine lv_aload_n hx hb dX0_carryOutRowStep_28 rfl (lv_at hl 0 rfl) ?_
        refine w_getC (own := RX0) (v := .int (nI n)) S in_w hK hP rfl 9 (by decide) fl_46 rfl rfl dX0_carryOutRowStep_29 ?_
        refine lv_icmp_ge (tgt := 57) hx hb dX0_carryOutRowStep_32 (by decide) (fun h32_1 => ?_) (fun h32_1 => absurd (Int32.le_refl _) h32_1)
        subst hQ
        exact W.vret hx hb hr (fun t ht hWm => ⟨⟨fe, rfl, (by unfold rowSt; rw [if_pos h8_0]; exact hg_fe), (show va_P D cls2 _ t.heap from by rw [ht]; exact hP)⟩, hS.F ht⟩) hS.2.2 dX0_carryOutRowStep_57
      | succ j ih =>
        intro k hk_k fe H locs hg_fe hP hS ls hl
        have hlt_k : k < n := by omega
        refine lv_iload hx hb dX0_carryOutRowStep_26 (lv_at hl 4 rfl) ?_
        refine lv_aload_n hx hb dX0_carryOutRowStep_28 rfl (lv_at hl 0 rfl) ?_
        refine w_getC (own := RX0) (v := .int (nI n)) S in_w hK hP rfl 9 (by decide) fl_46 rfl rfl dX0_carryOutRowStep_29 ?_
        refine lv_icmp_ge (tgt := 57) hx hb dX0_carryOutRowStep_32 (by decide) (fun h32_1 => absurd h32_1 (nI_ge hlt_k (by omega))) (fun h32_1 => ?_)
        refine lv_aload_n hx hb dX0_carryOutRowStep_35 rfl (lv_at hl 0 rfl) ?_
        refine w_getC (own := RX0) (v := .ref (q 4)) S in_w hK hP rfl 3 (by decide) fl_19 rfl rfl dX0_carryOutRowStep_36 ?_
        refine lv_iload_n hx hb dX0_carryOutRowStep_39 rfl (lv_at hl 1 rfl) ?_
        refine lv_iload hx hb dX0_carryOutRowStep_40 (lv_at hl 4 rfl) ?_
        refine vp_callSi (W.runS (As := [.int (nI i), .int (nI k)]) (rest := [.ref (q 4)]) S (c_X0_turn (i := i) (k := k)) (va_cwS 2 hts gX0_carryOutRowStep_X0_turn rfl rfl rfl hdX0_turn ⟨Nat.le_of_ble_eq_true rfl, Nat.le_of_ble_eq_true rfl⟩) preS rfl rfl hl.1 rfl (lv_room (Nat.le_of_ble_eq_true rfl)) dX0_carryOutRowStep_42 ⟨Nat.zero_le _, Nat.zero_le _⟩) (fun r_2 er_2 => ?_)
        subst er_2
        refine lv_dup2_11 hx hb dX0_carryOutRowStep_45 rfl rfl ?_
        refine w_dald hx hb hK hP 4 1 rfl rfl (j := 6 * i + k) (v := (rowM (rowF n inf e i) i k e) i k) (hg_fe i k (by omega) (by omega)) (by omega) (by decide) dX0_carryOutRowStep_46 ?_
        refine lv_dload hx hb dX0_carryOutRowStep_47 (lv_at hl 3 rfl) ?_
        refine lv_dmul hx hb dX0_carryOutRowStep_49 ((ho.2 h8_0).2 k (by omega)) ?_
        refine w_dast hx hb hK hP (wD_of hq rfl) hS 4 1 rfl rfl (j := 6 * i + k) (x := FP.dmul ((rowM (rowF n inf e i) i k e) i k) (FP.ddiv (FP.i2d (inf i)) (rowS e n i))) (by omega) (by decide) dX0_carryOutRowStep_50 (fun H locs hP _ hS => ?_)
        have hP : va_P D cls2 (cW q cI cD (nI n) rC fi fo fw (vf_upd fe (6 * i + k) (FP.dmul ((rowM (rowF n inf e i) i k e) i k) (FP.ddiv (FP.i2d (inf i)) (rowS e n i)))) ft fr fp fl ff) H := hP
        have g_4 : ag2 n (vf_upd fe (6 * i + k) (FP.dmul ((rowM (rowF n inf e i) i k e) i k) (FP.ddiv (FP.i2d (inf i)) (rowS e n i)))) (upd2 (rowM (rowF n inf e i) i k e) i k (FP.dmul ((rowM (rowF n inf e i) i k e) i k) (FP.ddiv (FP.i2d (inf i)) (rowS e n i)))) := (ag2_updD hg_fe hn.2 (i := i) (j := k) (by omega) (FP.dmul ((rowM (rowF n inf e i) i k e) i k) (FP.ddiv (FP.i2d (inf i)) (rowS e n i))))
        generalize (vf_upd fe (6 * i + k) (FP.dmul ((rowM (rowF n inf e i) i k e) i k) (FP.ddiv (FP.i2d (inf i)) (rowS e n i)))) = a_3 at hP g_4
        refine lv_iinc (v := nI (k + 1)) (lv' := [(6, .int (nI (k + 1))), (0, .ref (q 0)), (1, .int (nI i)), (2, .double (rowS e n i)), (4, .double (FP.ddiv (FP.i2d (inf i)) (rowS e n i)))]) hx hb dX0_carryOutRowStep_51 hl (k := 4) rfl (by rw [show Int32.ofInt 1 = nI 1 from by decide, nI_add]) (by decide) rfl (fun ls hl => ?_)
        refine lv_goto (tgt := 26) hx hb dX0_carryOutRowStep_54 (by decide) ?_
        have eq_5 : rowM (rowF n inf e i) i (k + 1) e = upd2 (rowM (rowF n inf e i) i k e) i k (FP.dmul ((rowM (rowF n inf e i) i k e) i k) (FP.ddiv (FP.i2d (inf i)) (rowS e n i))) := by rfl
        exact ih (k + 1) (by omega) _ _ _ (by rw [eq_5]; exact g_4) hP hS ls (lv_sub hl [1, 2, 3, 4, 0] rfl)
    exact lp26 (n - 0) 0 (by omega) _ _ _ hE hP hS ls (lv_sub hl [3, 4, 2, 1, 0] rfl)
abbrev rX0_carryOutColumnStep : Room := { frames := 2, cells := 0, slots := 0, locals := 45 }
theorem hdX0_carryOutColumnStep : yX0_carryOutColumnStep.cls = RX0 ∧ yX0_carryOutColumnStep.cls ≠ "java/lang/invoke/MethodHandle" ∧ yX0_carryOutColumnStep.cls ≠ "java/lang/invoke/VarHandle" ∧ (parseMethodDescriptor yX0_carryOutColumnStep.desc).map (fun d => d.parameters.length) = some 1 := by decide +kernel
set_option maxHeartbeats 4000000 in
set_option maxRecDepth 100000 in
theorem c_X0_carryOutColumnStep {l : Launch} {D : va_G} {q : Nat → Nat} {cI cD : ClassId} {rC : Int32} {fi fo fw : Nat → Int32} {fe : Nat → UInt64} {ft fr fp fl : Nat → Int32} {ff : Nat → UInt64} {n : Nat} (hn : 3 ≤ n ∧ n ≤ 6) {out : Nat → Int32} (hO : ag1 n fo out) {e : Nat → Nat → UInt64} (hE : ag2 n fe e) {i : Nat} (hi : i < n) (ho : okCS n out e i) (hq : qD q) : Met l yX0_carryOutColumnStep wsX0_carryOutColumnStep rX0_carryOutColumnStep (va_Pc [.ref (q 0), .int (nI i)] (wPre D (tys2 cI cD) (cW q cI cD (nI n) rC fi fo fw fe ft fr fp fl ff))) (va_Qv (fun (u : Nat → UInt64) => ag2 n u (colSt n out e i)) (fun u t => va_P D cls2 (cW q cI cD (nI n) rC fi fo fw u ft fr fp fl ff) t.heap) (qA q)) 0 0 (qA q) := by
  refine met_intro (cc := cX0_carryOutColumnStep) (maxL := 7) (ret := none) (own := RX0) (by decide) rfl rfl (Nat.le_of_ble_eq_true rfl) ?_
  intro pp ee ss mm args below meth cd Q ls hQ S hr hlocks hv hB hl
  obtain ⟨hx, hb, hml, hown, hts⟩ := id S
  obtain ⟨hP, hK⟩ := hB
  have in_w : ∀ w ∈ wsX00, w ∈ wsX0_carryOutColumnStep := by decide +kernel
  have fl_13 : Cond.fieldLink RX0 13 RX0 (TX0 1).2.1 (TX0 1).2.2.1 ∈ wsX0_carryOutColumnStep := by decide +kernel
  have fl_19 : Cond.fieldLink RX0 19 RX0 (TX0 3).2.1 (TX0 3).2.2.1 ∈ wsX0_carryOutColumnStep := by decide +kernel
  have fl_46 : Cond.fieldLink RX0 46 RX0 (TX0 9).2.1 (TX0 9).2.2.1 ∈ wsX0_carryOutColumnStep := by decide +kernel
  have hS : va_S (qA q) ss.heap ss.heap [] := va_S.rf
  generalize hHg : ss.heap = H at hP
  have hS : va_S (qA q) ss.heap H [] := by rw [← hHg]; exact hS
  suffices hgo : ∀ locs : List Loc, va_S (qA q) ss.heap H locs → W pp l ee rX0_carryOutColumnStep ss mm args below meth cd H locs 0 0 Q (F0 mm 0 ls []) by
    first | exact hgo [] hS | (rw [hHg]; exact hgo [] hS)
  clear hS
  intro locs hS
  have hl : lv_has ls 7 [(0, .ref (q 0)), (1, .int (nI i))] := hl
  refine lv_aload_n hx hb dX0_carryOutColumnStep_0 rfl (lv_at hl 0 rfl) ?_
  refine lv_iload_n hx hb dX0_carryOutColumnStep_1 rfl (lv_at hl 1 rfl) ?_
  refine vp_callSd (W.runV (As := [.int (nI i)]) (rest := []) S (c_X0_columnSum hn hE (i := i) (by omega) ho.1) (cwV 1 hts gX0_carryOutColumnStep_X0_columnSum rfl rfl rfl hdX0_columnSum ⟨Nat.le_of_ble_eq_true rfl, Nat.le_of_ble_eq_true rfl⟩) (preV hK hP rfl rfl) rfl rfl hl.1 rfl (lv_room (Nat.le_of_ble_eq_true rfl)) dX0_carryOutColumnStep_2 ⟨Nat.zero_le _, Nat.zero_le _⟩) (fun r_1 er_1 => ?_)
  subst er_1
  refine lv_dstore_n (lv' := [(2, .double (colS e n i)), (0, .ref (q 0)), (1, .int (nI i))]) hx hb dX0_carryOutColumnStep_5 rfl hl (by decide) rfl (fun ls hl => ?_)
  refine lv_dload_n hx hb dX0_carryOutColumnStep_6 rfl (lv_at hl 0 rfl) ?_
  refine lv_dconst0 hx hb dX0_carryOutColumnStep_7 ?_
  refine w_dgt (tgt := 57) hx hb dX0_carryOutColumnStep_8 dX0_carryOutColumnStep_9 (by decide) (fun h8_0 => ?_) (fun h8_0 => ?_)
  · subst hQ
    exact W.vret hx hb hr (fun t ht hWm => ⟨⟨fe, rfl, (by unfold colSt; rw [if_neg (by rw [h8_0]; decide)]; exact hE), (show va_P D cls2 _ t.heap from by rw [ht]; exact hP)⟩, hS.F ht⟩) hS.2.2 dX0_carryOutColumnStep_57
  · refine lv_aload_n hx hb dX0_carryOutColumnStep_12 rfl (lv_at hl 1 rfl) ?_
    refine w_getC (own := RX0) (v := .ref (q 2)) S in_w hK hP rfl 1 (by decide) fl_13 rfl rfl dX0_carryOutColumnStep_13 ?_
    refine lv_iload_n hx hb dX0_carryOutColumnStep_16 rfl (lv_at hl 2 rfl) ?_
    refine w_iald hx hb hK hP 2 0 rfl rfl (j := i) (v := out i) (hO i (by omega)) (by omega) (by decide) dX0_carryOutColumnStep_17 ?_
    refine lv_i2d hx hb dX0_carryOutColumnStep_18 ?_
    refine lv_dload_n hx hb dX0_carryOutColumnStep_19 rfl (lv_at hl 0 rfl) ?_
    refine lv_ddiv hx hb dX0_carryOutColumnStep_20 (ho.2 h8_0).1 ?_
    refine lv_dstore (lv' := [(4, .double (FP.ddiv (FP.i2d (out i)) (colS e n i))), (2, .double (colS e n i)), (0, .ref (q 0)), (1, .int (nI i))]) hx hb dX0_carryOutColumnStep_21 hl (by decide) rfl (fun ls hl => ?_)
    refine lv_iconst (v := nI 0) hx hb dX0_carryOutColumnStep_23 (by decide) ?_
    refine lv_istore (lv' := [(6, .int (nI 0)), (4, .double (FP.ddiv (FP.i2d (out i)) (colS e n i))), (2, .double (colS e n i)), (0, .ref (q 0)), (1, .int (nI i))]) hx hb dX0_carryOutColumnStep_24 hl (by decide) rfl (fun ls hl => ?_)
    have lp26 : ∀ (j k : Nat), k + j = n → ∀ (fe : Nat → UInt64), ∀ (H : Heap) (locs : List Loc), ag2 n fe (colM (colF n out e i) i k e) → va_P D cls2 (cW q cI cD (nI n) rC fi fo fw fe ft fr fp fl ff) H → va_S (qA q) ss.heap H locs → ∀ ls : Array Slot, lv_has ls 7 [(0, .ref (q 0)), (1, .int (nI i)), (2, .double (colS e n i)), (4, .double (FP.ddiv (FP.i2d (out i)) (colS e n i))), (6, .int (nI k))] → W pp l ee rX0_carryOutColumnStep ss mm args below meth cd H locs 0 0 Q (F0 mm 26 ls []) := by
      intro j
      induction j with
      | zero =>
        intro k hk_k fe H locs hg_fe hP hS ls hl
        have hke_k : n = k := by omega
        subst hke_k
        refine lv_iload hx hb dX0_carryOutColumnStep_26 (lv_at hl 4 rfl) ?_
        refine lv_aload_n hx hb dX0_carryOutColumnStep_28 rfl (lv_at hl 0 rfl) ?_
        refine w_getC (own := RX0) (v := .int (nI n)) S in_w hK hP rfl 9 (by decide) fl_46 rfl rfl dX0_carryOutColumnStep_29 ?_
        refine lv_icmp_ge (tgt := 57) hx hb dX0_carryOutColumnStep_32 (by decide) (fun h32_1 => ?_) (fun h32_1 => absurd (Int32.le_refl _) h32_1)
        subst hQ
        exact W.vret hx hb hr (fun t ht hWm => ⟨⟨fe, rfl, (by unfold colSt; rw [if_pos h8_0]; exact hg_fe), (show va_P D cls2 _ t.heap from by rw [ht]; exact hP)⟩, hS.F ht⟩) hS.2.2 dX0_carryOutColumnStep_57
      | succ j ih =>
        intro k hk_k fe H locs hg_fe hP hS ls hl
        have hlt_k : k < n := by omega
        refine lv_iload hx hb dX0_carryOutColumnStep_26 (lv_at hl 4 rfl) ?_
        refine lv_aload_n hx hb dX0_carryOutColumnStep_28 rfl (lv_at hl 0 rfl) ?_
        refine w_getC (own := RX0) (v := .int (nI n)) S in_w hK hP rfl 9 (by decide) fl_46 rfl rfl dX0_carryOutColumnStep_29 ?_
        refine lv_icmp_ge (tgt := 57) hx hb dX0_carryOutColumnStep_32 (by decide) (fun h32_1 => absurd h32_1 (nI_ge hlt_k (by omega))) (fun h32_1 => ?_)
        refine lv_aload_n hx hb dX0_carryOutColumnStep_35 rfl (lv_at hl 0 rfl) ?_
        refine w_getC (own := RX0) (v := .ref (q 4)) S in_w hK hP rfl 3 (by decide) fl_19 rfl rfl dX0_carryOutColumnStep_36 ?_
        refine lv_iload hx hb dX0_carryOutColumnStep_39 (lv_at hl 4 rfl) ?_
        refine lv_iload_n hx hb dX0_carryOutColumnStep_41 rfl (lv_at hl 1 rfl) ?_
        refine vp_callSi (W.runS (As := [.int (nI k), .int (nI i)]) (rest := [.ref (q 4)]) S (c_X0_turn (i := k) (k := i)) (va_cwS 2 hts gX0_carryOutColumnStep_X0_turn rfl rfl rfl hdX0_turn ⟨Nat.le_of_ble_eq_true rfl, Nat.le_of_ble_eq_true rfl⟩) preS rfl rfl hl.1 rfl (lv_room (Nat.le_of_ble_eq_true rfl)) dX0_carryOutColumnStep_42 ⟨Nat.zero_le _, Nat.zero_le _⟩) (fun r_2 er_2 => ?_)
        subst er_2
        refine lv_dup2_11 hx hb dX0_carryOutColumnStep_45 rfl rfl ?_
        refine w_dald hx hb hK hP 4 1 rfl rfl (j := 6 * k + i) (v := (colM (colF n out e i) i k e) k i) (hg_fe k i (by omega) (by omega)) (by omega) (by decide) dX0_carryOutColumnStep_46 ?_
        refine lv_dload hx hb dX0_carryOutColumnStep_47 (lv_at hl 3 rfl) ?_
        refine lv_dmul hx hb dX0_carryOutColumnStep_49 ((ho.2 h8_0).2 k (by omega)) ?_
        refine w_dast hx hb hK hP (wD_of hq rfl) hS 4 1 rfl rfl (j := 6 * k + i) (x := FP.dmul ((colM (colF n out e i) i k e) k i) (FP.ddiv (FP.i2d (out i)) (colS e n i))) (by omega) (by decide) dX0_carryOutColumnStep_50 (fun H locs hP _ hS => ?_)
        have hP : va_P D cls2 (cW q cI cD (nI n) rC fi fo fw (vf_upd fe (6 * k + i) (FP.dmul ((colM (colF n out e i) i k e) k i) (FP.ddiv (FP.i2d (out i)) (colS e n i)))) ft fr fp fl ff) H := hP
        have g_4 : ag2 n (vf_upd fe (6 * k + i) (FP.dmul ((colM (colF n out e i) i k e) k i) (FP.ddiv (FP.i2d (out i)) (colS e n i)))) (upd2 (colM (colF n out e i) i k e) k i (FP.dmul ((colM (colF n out e i) i k e) k i) (FP.ddiv (FP.i2d (out i)) (colS e n i)))) := (ag2_updD hg_fe hn.2 (i := k) (j := i) (by omega) (FP.dmul ((colM (colF n out e i) i k e) k i) (FP.ddiv (FP.i2d (out i)) (colS e n i))))
        generalize (vf_upd fe (6 * k + i) (FP.dmul ((colM (colF n out e i) i k e) k i) (FP.ddiv (FP.i2d (out i)) (colS e n i)))) = a_3 at hP g_4
        refine lv_iinc (v := nI (k + 1)) (lv' := [(6, .int (nI (k + 1))), (0, .ref (q 0)), (1, .int (nI i)), (2, .double (colS e n i)), (4, .double (FP.ddiv (FP.i2d (out i)) (colS e n i)))]) hx hb dX0_carryOutColumnStep_51 hl (k := 4) rfl (by rw [show Int32.ofInt 1 = nI 1 from by decide, nI_add]) (by decide) rfl (fun ls hl => ?_)
        refine lv_goto (tgt := 26) hx hb dX0_carryOutColumnStep_54 (by decide) ?_
        have eq_5 : colM (colF n out e i) i (k + 1) e = upd2 (colM (colF n out e i) i k e) k i (FP.dmul ((colM (colF n out e i) i k e) k i) (FP.ddiv (FP.i2d (out i)) (colS e n i))) := by rfl
        exact ih (k + 1) (by omega) _ _ _ (by rw [eq_5]; exact g_4) hP hS ls (lv_sub hl [1, 2, 3, 4, 0] rfl)
    exact lp26 (n - 0) 0 (by omega) _ _ _ hE hP hS ls (lv_sub hl [3, 4, 2, 1, 0] rfl)
abbrev rX0_carryOutRound : Room := { frames := 3, cells := 0, slots := 0, locals := 71 }
theorem hdX0_carryOutRound : yX0_carryOutRound.cls = RX0 ∧ yX0_carryOutRound.cls ≠ "java/lang/invoke/MethodHandle" ∧ yX0_carryOutRound.cls ≠ "java/lang/invoke/VarHandle" ∧ (parseMethodDescriptor yX0_carryOutRound.desc).map (fun d => d.parameters.length) = some 0 := by decide +kernel
set_option maxHeartbeats 4000000 in
set_option maxRecDepth 100000 in
theorem c_X0_carryOutRound {l : Launch} {D : va_G} {q : Nat → Nat} {cI cD : ClassId} {rC : Int32} {fi fo fw : Nat → Int32} {fe : Nat → UInt64} {ft fr fp fl : Nat → Int32} {ff : Nat → UInt64} {n : Nat} (hn : 3 ≤ n ∧ n ≤ 6) {inf : Nat → Int32} (hI : ag1 n fi inf) {out : Nat → Int32} (hO : ag1 n fo out) {e : Nat → Nat → UInt64} (hE : ag2 n fe e) (ho : okRnd n inf out e) (hq : qD q) : Met l yX0_carryOutRound wsX0_carryOutRound rX0_carryOutRound (va_Pc [.ref (q 0)] (wPre D (tys2 cI cD) (cW q cI cD (nI n) rC fi fo fw fe ft fr fp fl ff))) (va_Qv (fun (u : Nat → UInt64) => ag2 n u (rnd n inf out e)) (fun u t => va_P D cls2 (cW q cI cD (nI n) (rC + nI 1) fi fo fw u ft fr fp fl ff) t.heap) (qA q)) 0 0 (qA q) := by
  refine met_intro (cc := cX0_carryOutRound) (maxL := 2) (ret := none) (own := RX0) (by decide) rfl rfl (Nat.le_of_ble_eq_true rfl) ?_
  intro pp ee ss mm args below meth cd Q ls hQ S hr hlocks hv hB hl
  obtain ⟨hx, hb, hml, hown, hts⟩ := id S
  obtain ⟨hP, hK⟩ := hB
  have in_w : ∀ w ∈ wsX00, w ∈ wsX0_carryOutRound := by decide +kernel
  have fl_46 : Cond.fieldLink RX0 46 RX0 (TX0 9).2.1 (TX0 9).2.2.1 ∈ wsX0_carryOutRound := by decide +kernel
  have fl_95 : Cond.fieldLink RX0 95 RX0 (TX0 10).2.1 (TX0 10).2.2.1 ∈ wsX0_carryOutRound := by decide +kernel
  have hS : va_S (qA q) ss.heap ss.heap [] := va_S.rf
  generalize hHg : ss.heap = H at hP
  have hS : va_S (qA q) ss.heap H [] := by rw [← hHg]; exact hS
  suffices hgo : ∀ locs : List Loc, va_S (qA q) ss.heap H locs → W pp l ee rX0_carryOutRound ss mm args below meth cd H locs 0 0 Q (F0 mm 0 ls []) by
    first | exact hgo [] hS | (rw [hHg]; exact hgo [] hS)
  clear hS
  intro locs hS
  have hl : lv_has ls 2 [(0, .ref (q 0))] := hl
  refine lv_iconst (v := nI 0) hx hb dX0_carryOutRound_0 (by decide) ?_
  refine lv_istore_n (lv' := [(1, .int (nI 0)), (0, .ref (q 0))]) hx hb dX0_carryOutRound_1 rfl hl (by decide) rfl (fun ls hl => ?_)
  have lp2 : ∀ (j i : Nat), i + j = n → ∀ (fe : Nat → UInt64), ∀ (H : Heap) (locs : List Loc), ag2 n fe (rowsK n inf e i) → va_P D cls2 (cW q cI cD (nI n) rC fi fo fw fe ft fr fp fl ff) H → va_S (qA q) ss.heap H locs → ∀ ls : Array Slot, lv_has ls 2 [(0, .ref (q 0)), (1, .int (nI i))] → W pp l ee rX0_carryOutRound ss mm args below meth cd H locs 0 0 Q (F0 mm 2 ls []) := by
    intro j
    induction j with
    | zero =>
      intro i hk_i fe H locs hg_fe hP hS ls hl
      have hke_i : n = i := by omega
      subst hke_i
      refine lv_iload_n hx hb dX0_carryOutRound_2 rfl (lv_at hl 1 rfl) ?_
      refine lv_aload_n hx hb dX0_carryOutRound_3 rfl (lv_at hl 0 rfl) ?_
      refine w_getC (own := RX0) (v := .int (nI n)) S in_w hK hP rfl 9 (by decide) fl_46 rfl rfl dX0_carryOutRound_4 ?_
      refine lv_icmp_ge (tgt := 21) hx hb dX0_carryOutRound_7 (by decide) (fun h7_0 => ?_) (fun h7_0 => absurd (Int32.le_refl _) h7_0)
      refine lv_iconst (v := nI 0) hx hb dX0_carryOutRound_21 (by decide) ?_
      refine lv_istore_n (lv' := [(1, .int (nI 0)), (0, .ref (q 0))]) hx hb dX0_carryOutRound_22 rfl hl (by decide) rfl (fun ls hl => ?_)
      have lp23 : ∀ (j k : Nat), k + j = n → ∀ (fe : Nat → UInt64), ∀ (H : Heap) (locs : List Loc), ag2 n fe (colsK n out (rowsK n inf e n) k) → va_P D cls2 (cW q cI cD (nI n) rC fi fo fw fe ft fr fp fl ff) H → va_S (qA q) ss.heap H locs → ∀ ls : Array Slot, lv_has ls 2 [(0, .ref (q 0)), (1, .int (nI k))] → W pp l ee rX0_carryOutRound ss mm args below meth cd H locs 0 0 Q (F0 mm 23 ls []) := by
        intro j
        induction j with
        | zero =>
          intro k hk_k fe H locs hg_fe hP hS ls hl
          have hke_k : n = k := by omega
          subst hke_k
          refine lv_iload_n hx hb dX0_carryOutRound_23 rfl (lv_at hl 1 rfl) ?_
          refine lv_aload_n hx hb dX0_carryOutRound_24 rfl (lv_at hl 0 rfl) ?_
          refine w_getC (own := RX0) (v := .int (nI n)) S in_w hK hP rfl 9 (by decide) fl_46 rfl rfl dX0_carryOutRound_25 ?_
          refine lv_icmp_ge (tgt := 42) hx hb dX0_carryOutRound_28 (by decide) (fun h28_1 => ?_) (fun h28_1 => absurd (Int32.le_refl _) h28_1)
          refine lv_aload_n hx hb dX0_carryOutRound_42 rfl (lv_at hl 0 rfl) ?_
          refine lv_dup hx hb dX0_carryOutRound_43 rfl ?_
          refine w_getC (own := RX0) (v := .int rC) S in_w hK hP rfl 10 (by decide) fl_95 rfl rfl dX0_carryOutRound_44 ?_
          refine lv_iconst (v := nI 1) hx hb dX0_carryOutRound_47 (by decide) ?_
          refine lv_iadd hx hb dX0_carryOutRound_48 ?_
          refine w_putC (v := .int (rC + (nI 1))) (ty := .int) S in_w hK hP (wD_of hq rfl) hS rfl 10 (by decide) fl_95 rfl (by decide +kernel) rfl rfl (Nat.le_of_ble_eq_true rfl) rfl dX0_carryOutRound_49 (fun H locs hP hS => ?_)
          have hP : va_P D cls2 (cW q cI cD (nI n) (rC + (nI 1)) fi fo fw fe ft fr fp fl ff) H := hP
          subst hQ
          exact W.vret hx hb hr (fun t ht hWm => ⟨⟨fe, rfl, hg_fe, (show va_P D cls2 _ t.heap from by rw [ht]; exact hP)⟩, hS.F ht⟩) hS.2.2 dX0_carryOutRound_52
        | succ j ih =>
          intro k hk_k fe H locs hg_fe hP hS ls hl
          have hlt_k : k < n := by omega
          refine lv_iload_n hx hb dX0_carryOutRound_23 rfl (lv_at hl 1 rfl) ?_
          refine lv_aload_n hx hb dX0_carryOutRound_24 rfl (lv_at hl 0 rfl) ?_
          refine w_getC (own := RX0) (v := .int (nI n)) S in_w hK hP rfl 9 (by decide) fl_46 rfl rfl dX0_carryOutRound_25 ?_
          refine lv_icmp_ge (tgt := 42) hx hb dX0_carryOutRound_28 (by decide) (fun h28_1 => absurd h28_1 (nI_ge hlt_k (by omega))) (fun h28_1 => ?_)
          refine lv_aload_n hx hb dX0_carryOutRound_31 rfl (lv_at hl 0 rfl) ?_
          refine lv_iload_n hx hb dX0_carryOutRound_32 rfl (lv_at hl 1 rfl) ?_
          refine va_callv (va_runV (As := [.int (nI k)]) (rest := []) S (c_X0_carryOutColumnStep hn hO hg_fe (i := k) (by omega) (ho.2 k (by omega)) hq) (cwV 1 hts gX0_carryOutRound_X0_carryOutColumnStep rfl rfl rfl hdX0_carryOutColumnStep ⟨Nat.le_of_ble_eq_true rfl, Nat.le_of_ble_eq_true rfl⟩) (preV hK hP rfl rfl) rfl rfl hl.1 rfl (lv_room (Nat.le_of_ble_eq_true rfl)) dX0_carryOutRound_33 ⟨Nat.zero_le _, Nat.zero_le _⟩) hS (fun _ _ h => h) (fun _ h => h) (fun u_2 t H locs ht hvm hw_3 hB hz1 hk1 hS => ?_)
          replace hB : va_P D cls2 _ t.heap := hB
          rw [ht] at hB
          have hP : va_P D cls2 (cW q cI cD (nI n) rC fi fo fw u_2 ft fr fp fl ff) H := hB
          refine lv_iinc (v := nI (k + 1)) (lv' := [(1, .int (nI (k + 1))), (0, .ref (q 0))]) hx hb dX0_carryOutRound_36 hl (k := 1) rfl (by rw [show Int32.ofInt 1 = nI 1 from by decide, nI_add]) (by decide) rfl (fun ls hl => ?_)
          refine lv_goto (tgt := 23) hx hb dX0_carryOutRound_39 (by decide) ?_
          have eq_4 : colsK n out (rowsK n inf e n) (k + 1) = colSt n out (colsK n out (rowsK n inf e n) k) k := by rfl
          exact ih (k + 1) (by omega) _ _ _ (by rw [eq_4]; exact hw_3) hP hS ls (lv_sub hl [1, 0] rfl)
      exact lp23 (n - 0) 0 (by omega) _ _ _ hg_fe hP hS ls (lv_sub hl [1, 0] rfl)
    | succ j ih =>
      intro i hk_i fe H locs hg_fe hP hS ls hl
      have hlt_i : i < n := by omega
      refine lv_iload_n hx hb dX0_carryOutRound_2 rfl (lv_at hl 1 rfl) ?_
      refine lv_aload_n hx hb dX0_carryOutRound_3 rfl (lv_at hl 0 rfl) ?_
      refine w_getC (own := RX0) (v := .int (nI n)) S in_w hK hP rfl 9 (by decide) fl_46 rfl rfl dX0_carryOutRound_4 ?_
      refine lv_icmp_ge (tgt := 21) hx hb dX0_carryOutRound_7 (by decide) (fun h7_0 => absurd h7_0 (nI_ge hlt_i (by omega))) (fun h7_0 => ?_)
      refine lv_aload_n hx hb dX0_carryOutRound_10 rfl (lv_at hl 0 rfl) ?_
      refine lv_iload_n hx hb dX0_carryOutRound_11 rfl (lv_at hl 1 rfl) ?_
      refine va_callv (va_runV (As := [.int (nI i)]) (rest := []) S (c_X0_carryOutRowStep hn hI hg_fe (i := i) (by omega) (ho.1 i (by omega)) hq) (cwV 1 hts gX0_carryOutRound_X0_carryOutRowStep rfl rfl rfl hdX0_carryOutRowStep ⟨Nat.le_of_ble_eq_true rfl, Nat.le_of_ble_eq_true rfl⟩) (preV hK hP rfl rfl) rfl rfl hl.1 rfl (lv_room (Nat.le_of_ble_eq_true rfl)) dX0_carryOutRound_12 ⟨Nat.zero_le _, Nat.zero_le _⟩) hS (fun _ _ h => h) (fun _ h => h) (fun u_6 t H locs ht hvm hw_7 hB hz1 hk1 hS => ?_)
      replace hB : va_P D cls2 _ t.heap := hB
      rw [ht] at hB
      have hP : va_P D cls2 (cW q cI cD (nI n) rC fi fo fw u_6 ft fr fp fl ff) H := hB
      refine lv_iinc (v := nI (i + 1)) (lv' := [(1, .int (nI (i + 1))), (0, .ref (q 0))]) hx hb dX0_carryOutRound_15 hl (k := 1) rfl (by rw [show Int32.ofInt 1 = nI 1 from by decide, nI_add]) (by decide) rfl (fun ls hl => ?_)
      refine lv_goto (tgt := 2) hx hb dX0_carryOutRound_18 (by decide) ?_
      have eq_8 : rowsK n inf e (i + 1) = rowSt n inf (rowsK n inf e i) i := by rfl
      exact ih (i + 1) (by omega) _ _ _ (by rw [eq_8]; exact hw_7) hP hS ls (lv_sub hl [1, 0] rfl)
  exact lp2 (n - 0) 0 (by omega) _ _ _ hE hP hS ls (lv_sub hl [1, 0] rfl)
abbrev rX0_raiseGreatestFractions : Room := { frames := 3, cells := 0, slots := 0, locals := 68 }
theorem hdX0_raiseGreatestFractions : yX0_raiseGreatestFractions.cls = RX0 ∧ yX0_raiseGreatestFractions.cls ≠ "java/lang/invoke/MethodHandle" ∧ yX0_raiseGreatestFractions.cls ≠ "java/lang/invoke/VarHandle" ∧ (parseMethodDescriptor yX0_raiseGreatestFractions.desc).map (fun d => d.parameters.length) = some 2 := by decide +kernel
set_option maxHeartbeats 4000000 in
set_option maxRecDepth 100000 in
theorem c_X0_raiseGreatestFractions {l : Launch} {D : va_G} {q : Nat → Nat} {cI cD : ClassId} {rC : Int32} {fi fo fw : Nat → Int32} {fe : Nat → UInt64} {ft fr fp fl : Nat → Int32} {ff : Nat → UInt64} {n : Nat} (hn : 3 ≤ n ∧ n ≤ 6) {T : Nat → Nat} (hT : ∀ j : Nat, j < 6 → ft j = nI (T j) ∧ T j < 64) {rt : Nat → Nat → Int32} (hR : ag2 n fr rt) {fs : Nat → UInt64} (hF : ag1 n ff fs) {op : Nat → Nat → Bool} (hT2 : ∀ i j : Nat, i < n → j < n → (T i).testBit j = op i j) {i : Nat} {ms : Int32} (hi : i < n) (hq : qD q) : Met l yX0_raiseGreatestFractions wsX0_raiseGreatestFractions rX0_raiseGreatestFractions (va_Pc [.ref (q 0), .int (nI i), .int ms] (wPre D (tys2 cI cD) (cW q cI cD (nI n) rC fi fo fw fe ft fr fp fl ff))) (va_Qv (fun (u : (Nat → Int32) × (Nat → UInt64)) => ag2 n u.1 (rsF op i n (mnI ms (nI n)).toNatClampNeg (rt, fs)).1 ∧ ag1 n u.2 (rsF op i n (mnI ms (nI n)).toNatClampNeg (rt, fs)).2) (fun u t => va_P D cls2 (cW q cI cD (nI n) rC fi fo fw fe ft u.1 fp fl u.2) t.heap) (qA q)) 0 0 (qA q) := by
  refine met_intro (cc := cX0_raiseGreatestFractions) (maxL := 6) (ret := none) (own := RX0) (by decide) rfl rfl (Nat.le_of_ble_eq_true rfl) ?_
  intro pp ee ss mm args below meth cd Q ls hQ S hr hlocks hv hB hl
  obtain ⟨hx, hb, hml, hown, hts⟩ := id S
  obtain ⟨hP, hK⟩ := hB
  have in_w : ∀ w ∈ wsX00, w ∈ wsX0_raiseGreatestFractions := by decide +kernel
  have fl_26 : Cond.fieldLink RX0 26 RX0 (TX0 5).2.1 (TX0 5).2.2.1 ∈ wsX0_raiseGreatestFractions := by decide +kernel
  have fl_35 : Cond.fieldLink RX0 35 RX0 (TX0 8).2.1 (TX0 8).2.2.1 ∈ wsX0_raiseGreatestFractions := by decide +kernel
  have fl_46 : Cond.fieldLink RX0 46 RX0 (TX0 9).2.1 (TX0 9).2.2.1 ∈ wsX0_raiseGreatestFractions := by decide +kernel
  have hS : va_S (qA q) ss.heap ss.heap [] := va_S.rf
  generalize hHg : ss.heap = H at hP
  have hS : va_S (qA q) ss.heap H [] := by rw [← hHg]; exact hS
  suffices hgo : ∀ locs : List Loc, va_S (qA q) ss.heap H locs → W pp l ee rX0_raiseGreatestFractions ss mm args below meth cd H locs 0 0 Q (F0 mm 0 ls []) by
    first | exact hgo [] hS | (rw [hHg]; exact hgo [] hS)
  clear hS
  intro locs hS
  have hl : lv_has ls 6 [(0, .ref (q 0)), (1, .int (nI i)), (2, .int ms)] := hl
  obtain ⟨RES, hRES⟩ : ∃ z, z = rsF op i n (mnI ms (nI n)).toNatClampNeg (rt, fs) := ⟨_, rfl⟩
  rw [← hRES] at hQ
  refine lv_iload_n hx hb dX0_raiseGreatestFractions_0 rfl (lv_at hl 2 rfl) ?_
  refine lv_aload_n hx hb dX0_raiseGreatestFractions_1 rfl (lv_at hl 0 rfl) ?_
  refine w_getC (own := RX0) (v := .int (nI n)) S in_w hK hP rfl 9 (by decide) fl_46 rfl rfl dX0_raiseGreatestFractions_2 ?_
  refine va_mmin hx hb (hml.trans hl.1.symm) hown (hts (.methodLink RX0 192 Lib.Math.min.name) (by decide +kernel)) (hts (.static Lib.Math.min.name) (by decide +kernel)) (hts (.initialized "java/lang/Math") (by decide +kernel)) (hts (.code Lib.Math.min.name Lib.Math.min.code 2 (some .int)) (by decide +kernel)) (Nat.le_of_ble_eq_true rfl) (Nat.le_of_ble_eq_true rfl) (Nat.zero_le _) (Nat.zero_le _) dX0_raiseGreatestFractions_5 ?_
  show W _ _ _ _ _ _ _ _ _ _ _ _ _ _ _ (F0 mm 8 ls (.int (mnI ms (nI n)) :: _))
  refine lv_istore_n (lv' := [(3, .int (mnI ms (nI n))), (0, .ref (q 0)), (1, .int (nI i)), (2, .int ms)]) hx hb dX0_raiseGreatestFractions_8 rfl hl (by decide) rfl (fun ls hl => ?_)
  refine lv_iconst (v := nI 0) hx hb dX0_raiseGreatestFractions_9 (by decide) ?_
  refine lv_istore (lv' := [(4, .int (nI 0)), (3, .int (mnI ms (nI n))), (0, .ref (q 0)), (1, .int (nI i)), (2, .int ms)]) hx hb dX0_raiseGreatestFractions_10 hl (by decide) rfl (fun ls hl => ?_)
  have lp12 : ∀ (j k : Nat), k + j = (mnI ms (nI n)).toNatClampNeg → ∀ (rt : Nat → Nat → Int32), ∀ (fs : Nat → UInt64), ∀ (fr : Nat → Int32), ∀ (ff : Nat → UInt64), ∀ (H : Heap) (locs : List Loc), ag2 n fr (rt) → ag1 n ff (fs) → (rsF op i n j (rt, fs) = RES) → va_P D cls2 (cW q cI cD (nI n) rC fi fo fw fe ft fr fp fl ff) H → va_S (qA q) ss.heap H locs → ∀ ls : Array Slot, lv_has ls 6 [(0, .ref (q 0)), (1, .int (nI i)), (3, .int (mnI ms (nI n))), (4, .int (nI k))] → W pp l ee rX0_raiseGreatestFractions ss mm args below meth cd H locs 0 0 Q (F0 mm 12 ls []) := by
    intro j
    induction j with
    | zero =>
      intro k hk_k rt fs fr ff H locs hg_fr hg_ff hres hP hS ls hl
      have hke_k : (mnI ms (nI n)).toNatClampNeg = k := by omega
      subst hke_k
      refine lv_iload hx hb dX0_raiseGreatestFractions_12 (lv_at hl 3 rfl) ?_
      refine lv_iload_n hx hb dX0_raiseGreatestFractions_14 rfl (lv_at hl 2 rfl) ?_
      refine lv_icmp_ge (tgt := 63) hx hb dX0_raiseGreatestFractions_15 (by decide) (fun h15_0 => ?_) (fun h15_0 => absurd (rz_exit _) h15_0)
      subst hQ
      exact W.vret hx hb hr (fun t ht hWm => ⟨⟨(fr, ff), rfl, (by rw [← hres]; exact ⟨hg_fr, hg_ff⟩), (show va_P D cls2 _ t.heap from by rw [ht]; exact hP)⟩, hS.F ht⟩) hS.2.2 dX0_raiseGreatestFractions_63
    | succ j ih =>
      intro k hk_k rt fs fr ff H locs hg_fr hg_ff hres hP hS ls hl
      have hlt_k : k < (mnI ms (nI n)).toNatClampNeg := by omega
      refine lv_iload hx hb dX0_raiseGreatestFractions_12 (lv_at hl 3 rfl) ?_
      refine lv_iload_n hx hb dX0_raiseGreatestFractions_14 rfl (lv_at hl 2 rfl) ?_
      refine lv_icmp_ge (tgt := 63) hx hb dX0_raiseGreatestFractions_15 (by decide) (fun h15_0 => absurd h15_0 (rz_body hlt_k)) (fun h15_0 => ?_)
      refine lv_aload_n hx hb dX0_raiseGreatestFractions_18 rfl (lv_at hl 0 rfl) ?_
      refine lv_iload_n hx hb dX0_raiseGreatestFractions_19 rfl (lv_at hl 1 rfl) ?_
      refine vp_callSi (W.runV (As := [.int (nI i)]) (rest := []) S (c_X0_greatestFraction hn hT hg_ff hT2 (i := i) (by omega)) (cwV 1 hts gX0_raiseGreatestFractions_X0_greatestFraction rfl rfl rfl hdX0_greatestFraction ⟨Nat.le_of_ble_eq_true rfl, Nat.le_of_ble_eq_true rfl⟩) (preV hK hP rfl rfl) rfl rfl hl.1 rfl (lv_room (Nat.le_of_ble_eq_true rfl)) dX0_raiseGreatestFractions_20 ⟨Nat.zero_le _, Nat.zero_le _⟩) (fun r_1 er_1 => ?_)
      subst er_1
      refine lv_istore (lv' := [(5, .int ((grf op fs i n).1)), (0, .ref (q 0)), (1, .int (nI i)), (3, .int (mnI ms (nI n))), (4, .int (nI k))]) hx hb dX0_raiseGreatestFractions_23 hl (by decide) rfl (fun ls hl => ?_)
      refine lv_iload hx hb dX0_raiseGreatestFractions_25 (lv_at hl 0 rfl) ?_
      refine lv_iconst (v := -1) hx hb dX0_raiseGreatestFractions_27 (by decide) ?_
      refine lv_icmp_ne (tgt := 32) hx hb dX0_raiseGreatestFractions_28 (by decide) (fun h28_1 => ?_) (fun h28_1 => ?_)
      · obtain ⟨jj, hjj, ejj⟩ := grf_at h28_1
        rw [ejj] at hl
        have hl : lv_has ls 6 [(5, .int (nI jj)), (0, .ref (q 0)), (1, .int (nI i)), (3, .int (mnI ms (nI n))), (4, .int (nI k))] := hl
        refine lv_aload_n hx hb dX0_raiseGreatestFractions_32 rfl (lv_at hl 1 rfl) ?_
        refine w_getC (own := RX0) (v := .ref (q 6)) S in_w hK hP rfl 5 (by decide) fl_26 rfl rfl dX0_raiseGreatestFractions_33 ?_
        refine lv_iload_n hx hb dX0_raiseGreatestFractions_36 rfl (lv_at hl 2 rfl) ?_
        refine lv_iload hx hb dX0_raiseGreatestFractions_37 (lv_at hl 0 rfl) ?_
        refine vp_callSi (W.runS (As := [.int (nI i), .int (nI jj)]) (rest := [.ref (q 6)]) S (c_X0_turn (i := i) (k := jj)) (va_cwS 2 hts gX0_raiseGreatestFractions_X0_turn rfl rfl rfl hdX0_turn ⟨Nat.le_of_ble_eq_true rfl, Nat.le_of_ble_eq_true rfl⟩) preS rfl rfl hl.1 rfl (lv_room (Nat.le_of_ble_eq_true rfl)) dX0_raiseGreatestFractions_39 ⟨Nat.zero_le _, Nat.zero_le _⟩) (fun r_2 er_2 => ?_)
        subst er_2
        refine lv_dup2_11 hx hb dX0_raiseGreatestFractions_42 rfl rfl ?_
        refine w_iald hx hb hK hP 6 0 rfl rfl (j := 6 * i + jj) (v := rt i jj) (hg_fr i jj (by omega) (by omega)) (by omega) (by decide) dX0_raiseGreatestFractions_43 ?_
        refine lv_iconst (v := nI 1) hx hb dX0_raiseGreatestFractions_44 (by decide) ?_
        refine lv_iadd hx hb dX0_raiseGreatestFractions_45 ?_
        refine w_iast hx hb hK hP (wD_of hq rfl) hS 6 0 rfl rfl (j := 6 * i + jj) (x := (rt i jj) + (nI 1)) (by omega) (by decide) dX0_raiseGreatestFractions_46 (fun H locs hP _ hS => ?_)
        have hP : va_P D cls2 (cW q cI cD (nI n) rC fi fo fw fe ft (upd fr (6 * i + jj) ((rt i jj) + (nI 1))) fp fl ff) H := hP
        have g_4 : ag2 n (upd fr (6 * i + jj) ((rt i jj) + (nI 1))) (upd2 rt i jj ((rt i jj) + (nI 1))) := (ag2_upd hg_fr hn.2 (i := i) (j := jj) (by omega) ((rt i jj) + (nI 1)))
        generalize (upd fr (6 * i + jj) ((rt i jj) + (nI 1))) = a_3 at hP g_4
        refine lv_aload_n hx hb dX0_raiseGreatestFractions_47 rfl (lv_at hl 1 rfl) ?_
        refine w_getC (own := RX0) (v := .ref (q 9)) S in_w hK hP rfl 8 (by decide) fl_35 rfl rfl dX0_raiseGreatestFractions_48 ?_
        refine lv_iload hx hb dX0_raiseGreatestFractions_51 (lv_at hl 0 rfl) ?_
        refine lv_ldc2d (v := 13830554455654793216) hx hb hown (hts (.constantDouble RX0 209 13830554455654793216) (by decide +kernel)) dX0_raiseGreatestFractions_53 ?_
        refine w_dast hx hb hK hP (wD_of hq rfl) hS 9 1 rfl rfl (j := jj) (x := 13830554455654793216) (by omega) (by decide) dX0_raiseGreatestFractions_56 (fun H locs hP _ hS => ?_)
        have hP : va_P D cls2 (cW q cI cD (nI n) rC fi fo fw fe ft a_3 fp fl (vf_upd ff jj 13830554455654793216)) H := hP
        have g_6 : ag1 n (vf_upd ff jj 13830554455654793216) (vf_upd fs jj 13830554455654793216) := (ag1_updD hg_ff jj 13830554455654793216)
        generalize (vf_upd ff jj 13830554455654793216) = a_5 at hP g_6
        refine lv_iinc (v := nI (k + 1)) (lv' := [(4, .int (nI (k + 1))), (5, .int (nI jj)), (0, .ref (q 0)), (1, .int (nI i)), (3, .int (mnI ms (nI n)))]) hx hb dX0_raiseGreatestFractions_57 hl (k := 4) rfl (by rw [show Int32.ofInt 1 = nI 1 from by decide, nI_add]) (by decide) rfl (fun ls hl => ?_)
        refine lv_goto (tgt := 12) hx hb dX0_raiseGreatestFractions_60 (by decide) ?_
        exact ih (k + 1) (by omega) _ _ _ _ _ _ g_4 g_6 (by rw [← hres, rsF_step h28_1 ejj (by omega)]) hP hS ls (lv_sub hl [2, 3, 4, 0] rfl)
      · subst hQ
        exact W.vret hx hb hr (fun t ht hWm => ⟨⟨(fr, ff), rfl, (by rw [← hres, rsF_stop h28_1]; exact ⟨hg_fr, hg_ff⟩), (show va_P D cls2 _ t.heap from by rw [ht]; exact hP)⟩, hS.F ht⟩) hS.2.2 dX0_raiseGreatestFractions_31
  exact lp12 ((mnI ms (nI n)).toNatClampNeg - 0) 0 (by omega) _ _ _ _ _ _ hR hF hRES.symm hP hS ls (lv_sub hl [2, 3, 1, 0] rfl)
abbrev rX0_roundRow : Room := { frames := 4, cells := 0, slots := 0, locals := 93 }
theorem hdX0_roundRow : yX0_roundRow.cls = RX0 ∧ yX0_roundRow.cls ≠ "java/lang/invoke/MethodHandle" ∧ yX0_roundRow.cls ≠ "java/lang/invoke/VarHandle" ∧ (parseMethodDescriptor yX0_roundRow.desc).map (fun d => d.parameters.length) = some 1 := by decide +kernel
set_option maxHeartbeats 4000000 in
set_option maxRecDepth 100000 in
theorem c_X0_roundRow {l : Launch} {D : va_G} {q : Nat → Nat} {cI cD : ClassId} {rC : Int32} {fi fo fw : Nat → Int32} {fe : Nat → UInt64} {ft fr fp fl : Nat → Int32} {ff : Nat → UInt64} {n : Nat} (hn : 3 ≤ n ∧ n ≤ 6) {inf : Nat → Int32} (hI : ag1 n fi inf) {e : Nat → Nat → UInt64} (hE : ag2 n fe e) {T : Nat → Nat} (hT : ∀ j : Nat, j < 6 → ft j = nI (T j) ∧ T j < 64) {rt : Nat → Nat → Int32} (hR : ag2 n fr rt) {fs : Nat → UInt64} (hF : ag1 n ff fs) {op : Nat → Nat → Bool} (hT2 : ∀ i j : Nat, i < n → j < n → (T i).testBit j = op i j) {i : Nat} (hi : i < n) (ho : okX n inf e i) (hq : qD q) : Met l yX0_roundRow wsX0_roundRow rX0_roundRow (va_Pc [.ref (q 0), .int (nI i)] (wPre D (tys2 cI cD) (cW q cI cD (nI n) rC fi fo fw fe ft fr fp fl ff))) (va_Qv (fun (u : (Nat → Int32) × (Nat → UInt64)) => ag2 n u.1 (rrow op n inf e i (rt, fs)).1 ∧ ag1 n u.2 (rrow op n inf e i (rt, fs)).2) (fun u t => va_P D cls2 (cW q cI cD (nI n) rC fi fo fw fe ft u.1 fp fl u.2) t.heap) (qA q)) 0 0 (qA q) := by
  refine met_intro (cc := cX0_roundRow) (maxL := 9) (ret := none) (own := RX0) (by decide) rfl rfl (Nat.le_of_ble_eq_true rfl) ?_
  intro pp ee ss mm args below meth cd Q ls hQ S hr hlocks hv hB hl
  obtain ⟨hx, hb, hml, hown, hts⟩ := id S
  obtain ⟨hP, hK⟩ := hB
  have in_w : ∀ w ∈ wsX00, w ∈ wsX0_roundRow := by decide +kernel
  have fl_9 : Cond.fieldLink RX0 9 RX0 (TX0 0).2.1 (TX0 0).2.2.1 ∈ wsX0_roundRow := by decide +kernel
  have fl_19 : Cond.fieldLink RX0 19 RX0 (TX0 3).2.1 (TX0 3).2.2.1 ∈ wsX0_roundRow := by decide +kernel
  have fl_26 : Cond.fieldLink RX0 26 RX0 (TX0 5).2.1 (TX0 5).2.2.1 ∈ wsX0_roundRow := by decide +kernel
  have fl_35 : Cond.fieldLink RX0 35 RX0 (TX0 8).2.1 (TX0 8).2.2.1 ∈ wsX0_roundRow := by decide +kernel
  have fl_46 : Cond.fieldLink RX0 46 RX0 (TX0 9).2.1 (TX0 9).2.2.1 ∈ wsX0_roundRow := by decide +kernel
  have hS : va_S (qA q) ss.heap ss.heap [] := va_S.rf
  generalize hHg : ss.heap = H at hP
  have hS : va_S (qA q) ss.heap H [] := by rw [← hHg]; exact hS
  suffices hgo : ∀ locs : List Loc, va_S (qA q) ss.heap H locs → W pp l ee rX0_roundRow ss mm args below meth cd H locs 0 0 Q (F0 mm 0 ls []) by
    first | exact hgo [] hS | (rw [hHg]; exact hgo [] hS)
  clear hS
  intro locs hS
  have hl : lv_has ls 9 [(0, .ref (q 0)), (1, .int (nI i))] := hl
  refine lv_aload_n hx hb dX0_roundRow_0 rfl (lv_at hl 0 rfl) ?_
  refine lv_iload_n hx hb dX0_roundRow_1 rfl (lv_at hl 1 rfl) ?_
  refine vp_callSd (W.runV (As := [.int (nI i)]) (rest := []) S (c_X0_rowSum hn hE (i := i) (by omega) ho.1) (cwV 1 hts gX0_roundRow_X0_rowSum rfl rfl rfl hdX0_rowSum ⟨Nat.le_of_ble_eq_true rfl, Nat.le_of_ble_eq_true rfl⟩) (preV hK hP rfl rfl) rfl rfl hl.1 rfl (lv_room (Nat.le_of_ble_eq_true rfl)) dX0_roundRow_2 ⟨Nat.zero_le _, Nat.zero_le _⟩) (fun r_1 er_1 => ?_)
  subst er_1
  refine lv_dstore_n (lv' := [(2, .double (rowS e n i)), (0, .ref (q 0)), (1, .int (nI i))]) hx hb dX0_roundRow_5 rfl hl (by decide) rfl (fun ls hl => ?_)
  refine lv_iconst (v := nI 0) hx hb dX0_roundRow_6 (by decide) ?_
  refine lv_istore (lv' := [(4, .int (nI 0)), (2, .double (rowS e n i)), (0, .ref (q 0)), (1, .int (nI i))]) hx hb dX0_roundRow_7 hl (by decide) rfl (fun ls hl => ?_)
  refine lv_iconst (v := nI 0) hx hb dX0_roundRow_9 (by decide) ?_
  refine lv_istore (lv' := [(5, .int (nI 0)), (4, .int (nI 0)), (2, .double (rowS e n i)), (0, .ref (q 0)), (1, .int (nI i))]) hx hb dX0_roundRow_10 hl (by decide) rfl (fun ls hl => ?_)
  have lp12 : ∀ (j k : Nat), k + j = n → ∀ (fr : Nat → Int32), ∀ (ff : Nat → UInt64), ∀ (H : Heap) (locs : List Loc), ag2 n fr (rrT n inf e i k rt) → ag1 n ff (rrF n inf e i k fs) → va_P D cls2 (cW q cI cD (nI n) rC fi fo fw fe ft fr fp fl ff) H → va_S (qA q) ss.heap H locs → ∀ ls : Array Slot, lv_has ls 9 [(0, .ref (q 0)), (1, .int (nI i)), (2, .double (rowS e n i)), (4, .int (rrS n inf e i k)), (5, .int (nI k))] → W pp l ee rX0_roundRow ss mm args below meth cd H locs 0 0 Q (F0 mm 12 ls []) := by
    intro j
    induction j with
    | zero =>
      intro k hk_k fr ff H locs hg_fr hg_ff hP hS ls hl
      have hke_k : n = k := by omega
      subst hke_k
      refine lv_iload hx hb dX0_roundRow_12 (lv_at hl 4 rfl) ?_
      refine lv_aload_n hx hb dX0_roundRow_14 rfl (lv_at hl 0 rfl) ?_
      refine w_getC (own := RX0) (v := .int (nI n)) S in_w hK hP rfl 9 (by decide) fl_46 rfl rfl dX0_roundRow_15 ?_
      refine lv_icmp_ge (tgt := 98) hx hb dX0_roundRow_18 (by decide) (fun h18_0 => ?_) (fun h18_0 => absurd (Int32.le_refl _) h18_0)
      refine lv_dload_n hx hb dX0_roundRow_98 rfl (lv_at hl 2 rfl) ?_
      refine lv_dconst0 hx hb dX0_roundRow_99 ?_
      refine w_dgt (tgt := 118) hx hb dX0_roundRow_100 dX0_roundRow_101 (by decide) (fun h100_1 => ?_) (fun h100_1 => ?_)
      · subst hQ
        exact W.vret hx hb hr (fun t ht hWm => ⟨⟨(fr, ff), rfl, (by unfold rrow; rw [if_neg (by rw [h100_1]; decide)]; exact ⟨hg_fr, hg_ff⟩), (show va_P D cls2 _ t.heap from by rw [ht]; exact hP)⟩, hS.F ht⟩) hS.2.2 dX0_roundRow_118
      · refine lv_aload_n hx hb dX0_roundRow_104 rfl (lv_at hl 0 rfl) ?_
        refine lv_iload_n hx hb dX0_roundRow_105 rfl (lv_at hl 1 rfl) ?_
        refine lv_aload_n hx hb dX0_roundRow_106 rfl (lv_at hl 0 rfl) ?_
        refine w_getC (own := RX0) (v := .ref (q 1)) S in_w hK hP rfl 0 (by decide) fl_9 rfl rfl dX0_roundRow_107 ?_
        refine lv_iload_n hx hb dX0_roundRow_110 rfl (lv_at hl 1 rfl) ?_
        refine w_iald hx hb hK hP 1 0 rfl rfl (j := i) (v := inf i) (hI i (by omega)) (by omega) (by decide) dX0_roundRow_111 ?_
        refine lv_iload hx hb dX0_roundRow_112 (lv_at hl 3 rfl) ?_
        refine lv_isub hx hb dX0_roundRow_114 ?_
        refine va_callv (va_runV (As := [.int (nI i), .int ((inf i) - (rrS n inf e i n))]) (rest := []) S (c_X0_raiseGreatestFractions hn hT hg_fr hg_ff hT2 (i := i) (ms := (inf i) - (rrS n inf e i n)) (by omega) hq) (cwV 2 hts gX0_roundRow_X0_raiseGreatestFractions rfl rfl rfl hdX0_raiseGreatestFractions ⟨Nat.le_of_ble_eq_true rfl, Nat.le_of_ble_eq_true rfl⟩) (preV hK hP rfl rfl) rfl rfl hl.1 rfl (lv_room (Nat.le_of_ble_eq_true rfl)) dX0_roundRow_115 ⟨Nat.zero_le _, Nat.zero_le _⟩) hS (fun _ _ h => h) (fun _ h => h) (fun u_3 t H locs ht hvm hw_4 hB hz1 hk1 hS => ?_)
        replace hB : va_P D cls2 _ t.heap := hB
        rw [ht] at hB
        have hP : va_P D cls2 (cW q cI cD (nI n) rC fi fo fw fe ft u_3.1 fp fl u_3.2) H := hB
        subst hQ
        exact W.vret hx hb hr (fun t ht hWm => ⟨⟨(u_3.1, u_3.2), rfl, (by unfold rrow; rw [if_pos h100_1]; exact ⟨hw_4.1, hw_4.2⟩), (show va_P D cls2 _ t.heap from by rw [ht]; exact hP)⟩, hS.F ht⟩) hS.2.2 dX0_roundRow_118
    | succ j ih =>
      intro k hk_k fr ff H locs hg_fr hg_ff hP hS ls hl
      have hlt_k : k < n := by omega
      refine lv_iload hx hb dX0_roundRow_12 (lv_at hl 4 rfl) ?_
      refine lv_aload_n hx hb dX0_roundRow_14 rfl (lv_at hl 0 rfl) ?_
      refine w_getC (own := RX0) (v := .int (nI n)) S in_w hK hP rfl 9 (by decide) fl_46 rfl rfl dX0_roundRow_15 ?_
      refine lv_icmp_ge (tgt := 98) hx hb dX0_roundRow_18 (by decide) (fun h18_0 => absurd h18_0 (nI_ge hlt_k (by omega))) (fun h18_0 => ?_)
      refine lv_dload_n hx hb dX0_roundRow_21 rfl (lv_at hl 2 rfl) ?_
      refine lv_dconst0 hx hb dX0_roundRow_22 ?_
      refine w_dgt (tgt := 51) hx hb dX0_roundRow_23 dX0_roundRow_24 (by decide) (fun h23_1 => ?_) (fun h23_1 => ?_)
      · refine lv_dconst0 hx hb dX0_roundRow_51 ?_
        refine lv_dstore (lv' := [(6, .double FP.dconst0), (0, .ref (q 0)), (1, .int (nI i)), (2, .double (rowS e n i)), (4, .int (rrS n inf e i k)), (5, .int (nI k))]) hx hb dX0_roundRow_52 hl (by decide) rfl (fun ls hl => ?_)
        refine lv_dload hx hb dX0_roundRow_54 (lv_at hl 0 rfl) ?_
        refine lv_d2i hx hb dX0_roundRow_56 ?_
        refine lv_istore (lv' := [(8, .int (FP.d2i FP.dconst0)), (6, .double FP.dconst0), (0, .ref (q 0)), (1, .int (nI i)), (2, .double (rowS e n i)), (4, .int (rrS n inf e i k)), (5, .int (nI k))]) hx hb dX0_roundRow_57 hl (by decide) rfl (fun ls hl => ?_)
        refine lv_aload_n hx hb dX0_roundRow_59 rfl (lv_at hl 2 rfl) ?_
        refine w_getC (own := RX0) (v := .ref (q 6)) S in_w hK hP rfl 5 (by decide) fl_26 rfl rfl dX0_roundRow_60 ?_
        refine lv_iload_n hx hb dX0_roundRow_63 rfl (lv_at hl 3 rfl) ?_
        refine lv_iload hx hb dX0_roundRow_64 (lv_at hl 6 rfl) ?_
        refine vp_callSi (W.runS (As := [.int (nI i), .int (nI k)]) (rest := [.ref (q 6)]) S (c_X0_turn (i := i) (k := k)) (va_cwS 2 hts gX0_roundRow_X0_turn rfl rfl rfl hdX0_turn ⟨Nat.le_of_ble_eq_true rfl, Nat.le_of_ble_eq_true rfl⟩) preS rfl rfl hl.1 rfl (lv_room (Nat.le_of_ble_eq_true rfl)) dX0_roundRow_66 ⟨Nat.zero_le _, Nat.zero_le _⟩) (fun r_5 er_5 => ?_)
        subst er_5
        refine lv_iload hx hb dX0_roundRow_69 (lv_at hl 0 rfl) ?_
        refine w_iast hx hb hK hP (wD_of hq rfl) hS 6 0 rfl rfl (j := 6 * i + k) (x := FP.d2i FP.dconst0) (by omega) (by decide) dX0_roundRow_71 (fun H locs hP _ hS => ?_)
        have hP : va_P D cls2 (cW q cI cD (nI n) rC fi fo fw fe ft (upd fr (6 * i + k) (FP.d2i FP.dconst0)) fp fl ff) H := hP
        have g_7 : ag2 n (upd fr (6 * i + k) (FP.d2i FP.dconst0)) (upd2 (rrT n inf e i k rt) i k (FP.d2i FP.dconst0)) := (ag2_upd hg_fr hn.2 (i := i) (j := k) (by omega) (FP.d2i FP.dconst0))
        generalize (upd fr (6 * i + k) (FP.d2i FP.dconst0)) = a_6 at hP g_7
        refine lv_aload_n hx hb dX0_roundRow_72 rfl (lv_at hl 2 rfl) ?_
        refine w_getC (own := RX0) (v := .ref (q 9)) S in_w hK hP rfl 8 (by decide) fl_35 rfl rfl dX0_roundRow_73 ?_
        refine lv_iload hx hb dX0_roundRow_76 (lv_at hl 6 rfl) ?_
        refine lv_dload hx hb dX0_roundRow_78 (lv_at hl 1 rfl) ?_
        refine lv_iload hx hb dX0_roundRow_80 (lv_at hl 0 rfl) ?_
        refine lv_i2d hx hb dX0_roundRow_82 ?_
        refine lv_dsub hx hb dX0_roundRow_83 (by have h9 := ho.2.2 k (by omega); unfold fv wv xv at h9; simpa only [h23_1, reduceIte, Bool.false_eq_true] using h9) ?_
        refine w_dast hx hb hK hP (wD_of hq rfl) hS 9 1 rfl rfl (j := k) (x := FP.dsub FP.dconst0 (FP.i2d (FP.d2i FP.dconst0))) (by omega) (by decide) dX0_roundRow_84 (fun H locs hP _ hS => ?_)
        have hP : va_P D cls2 (cW q cI cD (nI n) rC fi fo fw fe ft a_6 fp fl (vf_upd ff k (FP.dsub FP.dconst0 (FP.i2d (FP.d2i FP.dconst0))))) H := hP
        have g_9 : ag1 n (vf_upd ff k (FP.dsub FP.dconst0 (FP.i2d (FP.d2i FP.dconst0)))) (vf_upd (rrF n inf e i k fs) k (FP.dsub FP.dconst0 (FP.i2d (FP.d2i FP.dconst0)))) := (ag1_updD hg_ff k (FP.dsub FP.dconst0 (FP.i2d (FP.d2i FP.dconst0))))
        generalize (vf_upd ff k (FP.dsub FP.dconst0 (FP.i2d (FP.d2i FP.dconst0)))) = a_8 at hP g_9
        refine lv_iload hx hb dX0_roundRow_85 (lv_at hl 5 rfl) ?_
        refine lv_iload hx hb dX0_roundRow_87 (lv_at hl 0 rfl) ?_
        refine lv_iadd hx hb dX0_roundRow_89 ?_
        refine lv_istore (lv' := [(4, .int ((rrS n inf e i k) + (FP.d2i FP.dconst0))), (8, .int (FP.d2i FP.dconst0)), (6, .double FP.dconst0), (0, .ref (q 0)), (1, .int (nI i)), (2, .double (rowS e n i)), (5, .int (nI k))]) hx hb dX0_roundRow_90 hl (by decide) rfl (fun ls hl => ?_)
        refine lv_iinc (v := nI (k + 1)) (lv' := [(5, .int (nI (k + 1))), (4, .int ((rrS n inf e i k) + (FP.d2i FP.dconst0))), (8, .int (FP.d2i FP.dconst0)), (6, .double FP.dconst0), (0, .ref (q 0)), (1, .int (nI i)), (2, .double (rowS e n i))]) hx hb dX0_roundRow_92 hl (k := 6) rfl (by rw [show Int32.ofInt 1 = nI 1 from by decide, nI_add]) (by decide) rfl (fun ls hl => ?_)
        refine lv_goto (tgt := 12) hx hb dX0_roundRow_95 (by decide) ?_
        have eq_10 : rrS n inf e i (k + 1) = (rrS n inf e i k) + (FP.d2i FP.dconst0) := by (show rrS n inf e i k + wv n inf e i k = _; unfold wv xv; simp only [h23_1, reduceIte, Bool.false_eq_true])
        have eq_11 : rrT n inf e i (k + 1) rt = upd2 (rrT n inf e i k rt) i k (FP.d2i FP.dconst0) := by (show upd2 (rrT n inf e i k rt) i k (wv n inf e i k) = _; unfold wv xv; simp only [h23_1, reduceIte, Bool.false_eq_true])
        have eq_12 : rrF n inf e i (k + 1) fs = vf_upd (rrF n inf e i k fs) k (FP.dsub FP.dconst0 (FP.i2d (FP.d2i FP.dconst0))) := by (show vf_upd (rrF n inf e i k fs) k (fv n inf e i k) = _; unfold fv wv xv; simp only [h23_1, reduceIte, Bool.false_eq_true])
        have hl : lv_has ls 9 [(5, .int (nI (k + 1))), (4, .int (rrS n inf e i (k + 1))), (8, .int (FP.d2i FP.dconst0)), (6, .double FP.dconst0), (0, .ref (q 0)), (1, .int (nI i)), (2, .double (rowS e n i))] := by first | exact hl | (rw [eq_10]; exact hl)
        exact ih (k + 1) (by omega) _ _ _ _ (by rw [eq_11]; exact g_7) (by rw [eq_12]; exact g_9) hP hS ls (lv_sub hl [4, 5, 6, 1, 0] rfl)
      · refine lv_aload_n hx hb dX0_roundRow_27 rfl (lv_at hl 0 rfl) ?_
        refine w_getC (own := RX0) (v := .ref (q 4)) S in_w hK hP rfl 3 (by decide) fl_19 rfl rfl dX0_roundRow_28 ?_
        refine lv_iload_n hx hb dX0_roundRow_31 rfl (lv_at hl 1 rfl) ?_
        refine lv_iload hx hb dX0_roundRow_32 (lv_at hl 4 rfl) ?_
        refine vp_callSi (W.runS (As := [.int (nI i), .int (nI k)]) (rest := [.ref (q 4)]) S (c_X0_turn (i := i) (k := k)) (va_cwS 2 hts gX0_roundRow_X0_turn rfl rfl rfl hdX0_turn ⟨Nat.le_of_ble_eq_true rfl, Nat.le_of_ble_eq_true rfl⟩) preS rfl rfl hl.1 rfl (lv_room (Nat.le_of_ble_eq_true rfl)) dX0_roundRow_34 ⟨Nat.zero_le _, Nat.zero_le _⟩) (fun r_13 er_13 => ?_)
        subst er_13
        refine w_dald hx hb hK hP 4 1 rfl rfl (j := 6 * i + k) (v := e i k) (hE i k (by omega) (by omega)) (by omega) (by decide) dX0_roundRow_37 ?_
        refine lv_aload_n hx hb dX0_roundRow_38 rfl (lv_at hl 0 rfl) ?_
        refine w_getC (own := RX0) (v := .ref (q 1)) S in_w hK hP rfl 0 (by decide) fl_9 rfl rfl dX0_roundRow_39 ?_
        refine lv_iload_n hx hb dX0_roundRow_42 rfl (lv_at hl 1 rfl) ?_
        refine w_iald hx hb hK hP 1 0 rfl rfl (j := i) (v := inf i) (hI i (by omega)) (by omega) (by decide) dX0_roundRow_43 ?_
        refine lv_i2d hx hb dX0_roundRow_44 ?_
        refine lv_dmul hx hb dX0_roundRow_45 (ho.2.1 h23_1 k (by omega)).1 ?_
        refine lv_dload_n hx hb dX0_roundRow_46 rfl (lv_at hl 2 rfl) ?_
        refine lv_ddiv hx hb dX0_roundRow_47 (ho.2.1 h23_1 k (by omega)).2 ?_
        refine lv_goto (tgt := 52) hx hb dX0_roundRow_48 (by decide) ?_
        refine lv_dstore (lv' := [(6, .double (FP.ddiv (FP.dmul (e i k) (FP.i2d (inf i))) (rowS e n i))), (0, .ref (q 0)), (1, .int (nI i)), (2, .double (rowS e n i)), (4, .int (rrS n inf e i k)), (5, .int (nI k))]) hx hb dX0_roundRow_52 hl (by decide) rfl (fun ls hl => ?_)
        refine lv_dload hx hb dX0_roundRow_54 (lv_at hl 0 rfl) ?_
        refine lv_d2i hx hb dX0_roundRow_56 ?_
        refine lv_istore (lv' := [(8, .int (FP.d2i (FP.ddiv (FP.dmul (e i k) (FP.i2d (inf i))) (rowS e n i)))), (6, .double (FP.ddiv (FP.dmul (e i k) (FP.i2d (inf i))) (rowS e n i))), (0, .ref (q 0)), (1, .int (nI i)), (2, .double (rowS e n i)), (4, .int (rrS n inf e i k)), (5, .int (nI k))]) hx hb dX0_roundRow_57 hl (by decide) rfl (fun ls hl => ?_)
        refine lv_aload_n hx hb dX0_roundRow_59 rfl (lv_at hl 2 rfl) ?_
        refine w_getC (own := RX0) (v := .ref (q 6)) S in_w hK hP rfl 5 (by decide) fl_26 rfl rfl dX0_roundRow_60 ?_
        refine lv_iload_n hx hb dX0_roundRow_63 rfl (lv_at hl 3 rfl) ?_
        refine lv_iload hx hb dX0_roundRow_64 (lv_at hl 6 rfl) ?_
        refine vp_callSi (W.runS (As := [.int (nI i), .int (nI k)]) (rest := [.ref (q 6)]) S (c_X0_turn (i := i) (k := k)) (va_cwS 2 hts gX0_roundRow_X0_turn rfl rfl rfl hdX0_turn ⟨Nat.le_of_ble_eq_true rfl, Nat.le_of_ble_eq_true rfl⟩) preS rfl rfl hl.1 rfl (lv_room (Nat.le_of_ble_eq_true rfl)) dX0_roundRow_66 ⟨Nat.zero_le _, Nat.zero_le _⟩) (fun r_14 er_14 => ?_)
        subst er_14
        refine lv_iload hx hb dX0_roundRow_69 (lv_at hl 0 rfl) ?_
        refine w_iast hx hb hK hP (wD_of hq rfl) hS 6 0 rfl rfl (j := 6 * i + k) (x := FP.d2i (FP.ddiv (FP.dmul (e i k) (FP.i2d (inf i))) (rowS e n i))) (by omega) (by decide) dX0_roundRow_71 (fun H locs hP _ hS => ?_)
        have hP : va_P D cls2 (cW q cI cD (nI n) rC fi fo fw fe ft (upd fr (6 * i + k) (FP.d2i (FP.ddiv (FP.dmul (e i k) (FP.i2d (inf i))) (rowS e n i)))) fp fl ff) H := hP
        have g_16 : ag2 n (upd fr (6 * i + k) (FP.d2i (FP.ddiv (FP.dmul (e i k) (FP.i2d (inf i))) (rowS e n i)))) (upd2 (rrT n inf e i k rt) i k (FP.d2i (FP.ddiv (FP.dmul (e i k) (FP.i2d (inf i))) (rowS e n i)))) := (ag2_upd hg_fr hn.2 (i := i) (j := k) (by omega) (FP.d2i (FP.ddiv (FP.dmul (e i k) (FP.i2d (inf i))) (rowS e n i))))
        generalize (upd fr (6 * i + k) (FP.d2i (FP.ddiv (FP.dmul (e i k) (FP.i2d (inf i))) (rowS e n i)))) = a_15 at hP g_16
        refine lv_aload_n hx hb dX0_roundRow_72 rfl (lv_at hl 2 rfl) ?_
        refine w_getC (own := RX0) (v := .ref (q 9)) S in_w hK hP rfl 8 (by decide) fl_35 rfl rfl dX0_roundRow_73 ?_
        refine lv_iload hx hb dX0_roundRow_76 (lv_at hl 6 rfl) ?_
        refine lv_dload hx hb dX0_roundRow_78 (lv_at hl 1 rfl) ?_
        refine lv_iload hx hb dX0_roundRow_80 (lv_at hl 0 rfl) ?_
        refine lv_i2d hx hb dX0_roundRow_82 ?_
        refine lv_dsub hx hb dX0_roundRow_83 (by have h9 := ho.2.2 k (by omega); unfold fv wv xv at h9; simpa only [h23_1, reduceIte, Bool.false_eq_true] using h9) ?_
        refine w_dast hx hb hK hP (wD_of hq rfl) hS 9 1 rfl rfl (j := k) (x := FP.dsub (FP.ddiv (FP.dmul (e i k) (FP.i2d (inf i))) (rowS e n i)) (FP.i2d (FP.d2i (FP.ddiv (FP.dmul (e i k) (FP.i2d (inf i))) (rowS e n i))))) (by omega) (by decide) dX0_roundRow_84 (fun H locs hP _ hS => ?_)
        have hP : va_P D cls2 (cW q cI cD (nI n) rC fi fo fw fe ft a_15 fp fl (vf_upd ff k (FP.dsub (FP.ddiv (FP.dmul (e i k) (FP.i2d (inf i))) (rowS e n i)) (FP.i2d (FP.d2i (FP.ddiv (FP.dmul (e i k) (FP.i2d (inf i))) (rowS e n i))))))) H := hP
        have g_18 : ag1 n (vf_upd ff k (FP.dsub (FP.ddiv (FP.dmul (e i k) (FP.i2d (inf i))) (rowS e n i)) (FP.i2d (FP.d2i (FP.ddiv (FP.dmul (e i k) (FP.i2d (inf i))) (rowS e n i)))))) (vf_upd (rrF n inf e i k fs) k (FP.dsub (FP.ddiv (FP.dmul (e i k) (FP.i2d (inf i))) (rowS e n i)) (FP.i2d (FP.d2i (FP.ddiv (FP.dmul (e i k) (FP.i2d (inf i))) (rowS e n i)))))) := (ag1_updD hg_ff k (FP.dsub (FP.ddiv (FP.dmul (e i k) (FP.i2d (inf i))) (rowS e n i)) (FP.i2d (FP.d2i (FP.ddiv (FP.dmul (e i k) (FP.i2d (inf i))) (rowS e n i))))))
        generalize (vf_upd ff k (FP.dsub (FP.ddiv (FP.dmul (e i k) (FP.i2d (inf i))) (rowS e n i)) (FP.i2d (FP.d2i (FP.ddiv (FP.dmul (e i k) (FP.i2d (inf i))) (rowS e n i)))))) = a_17 at hP g_18
        refine lv_iload hx hb dX0_roundRow_85 (lv_at hl 5 rfl) ?_
        refine lv_iload hx hb dX0_roundRow_87 (lv_at hl 0 rfl) ?_
        refine lv_iadd hx hb dX0_roundRow_89 ?_
        refine lv_istore (lv' := [(4, .int ((rrS n inf e i k) + (FP.d2i (FP.ddiv (FP.dmul (e i k) (FP.i2d (inf i))) (rowS e n i))))), (8, .int (FP.d2i (FP.ddiv (FP.dmul (e i k) (FP.i2d (inf i))) (rowS e n i)))), (6, .double (FP.ddiv (FP.dmul (e i k) (FP.i2d (inf i))) (rowS e n i))), (0, .ref (q 0)), (1, .int (nI i)), (2, .double (rowS e n i)), (5, .int (nI k))]) hx hb dX0_roundRow_90 hl (by decide) rfl (fun ls hl => ?_)
        refine lv_iinc (v := nI (k + 1)) (lv' := [(5, .int (nI (k + 1))), (4, .int ((rrS n inf e i k) + (FP.d2i (FP.ddiv (FP.dmul (e i k) (FP.i2d (inf i))) (rowS e n i))))), (8, .int (FP.d2i (FP.ddiv (FP.dmul (e i k) (FP.i2d (inf i))) (rowS e n i)))), (6, .double (FP.ddiv (FP.dmul (e i k) (FP.i2d (inf i))) (rowS e n i))), (0, .ref (q 0)), (1, .int (nI i)), (2, .double (rowS e n i))]) hx hb dX0_roundRow_92 hl (k := 6) rfl (by rw [show Int32.ofInt 1 = nI 1 from by decide, nI_add]) (by decide) rfl (fun ls hl => ?_)
        refine lv_goto (tgt := 12) hx hb dX0_roundRow_95 (by decide) ?_
        have eq_19 : rrS n inf e i (k + 1) = (rrS n inf e i k) + (FP.d2i (FP.ddiv (FP.dmul (e i k) (FP.i2d (inf i))) (rowS e n i))) := by (show rrS n inf e i k + wv n inf e i k = _; unfold wv xv; simp only [h23_1, reduceIte, Bool.false_eq_true])
        have eq_20 : rrT n inf e i (k + 1) rt = upd2 (rrT n inf e i k rt) i k (FP.d2i (FP.ddiv (FP.dmul (e i k) (FP.i2d (inf i))) (rowS e n i))) := by (show upd2 (rrT n inf e i k rt) i k (wv n inf e i k) = _; unfold wv xv; simp only [h23_1, reduceIte, Bool.false_eq_true])
        have eq_21 : rrF n inf e i (k + 1) fs = vf_upd (rrF n inf e i k fs) k (FP.dsub (FP.ddiv (FP.dmul (e i k) (FP.i2d (inf i))) (rowS e n i)) (FP.i2d (FP.d2i (FP.ddiv (FP.dmul (e i k) (FP.i2d (inf i))) (rowS e n i))))) := by (show vf_upd (rrF n inf e i k fs) k (fv n inf e i k) = _; unfold fv wv xv; simp only [h23_1, reduceIte, Bool.false_eq_true])
        have hl : lv_has ls 9 [(5, .int (nI (k + 1))), (4, .int (rrS n inf e i (k + 1))), (8, .int (FP.d2i (FP.ddiv (FP.dmul (e i k) (FP.i2d (inf i))) (rowS e n i)))), (6, .double (FP.ddiv (FP.dmul (e i k) (FP.i2d (inf i))) (rowS e n i))), (0, .ref (q 0)), (1, .int (nI i)), (2, .double (rowS e n i))] := by first | exact hl | (rw [eq_19]; exact hl)
        exact ih (k + 1) (by omega) _ _ _ _ (by rw [eq_20]; exact g_16) (by rw [eq_21]; exact g_18) hP hS ls (lv_sub hl [4, 5, 6, 1, 0] rfl)
  exact lp12 (n - 0) 0 (by omega) _ _ _ _ hR hF hP hS ls (lv_sub hl [3, 4, 2, 1, 0] rfl)
abbrev rX0_roundAllRows : Room := { frames := 5, cells := 0, slots := 0, locals := 121 }
theorem hdX0_roundAllRows : yX0_roundAllRows.cls = RX0 ∧ yX0_roundAllRows.cls ≠ "java/lang/invoke/MethodHandle" ∧ yX0_roundAllRows.cls ≠ "java/lang/invoke/VarHandle" ∧ (parseMethodDescriptor yX0_roundAllRows.desc).map (fun d => d.parameters.length) = some 0 := by decide +kernel
set_option maxHeartbeats 4000000 in
set_option maxRecDepth 100000 in
theorem c_X0_roundAllRows {l : Launch} {D : va_G} {q : Nat → Nat} {cI cD : ClassId} {rC : Int32} {fi fo fw : Nat → Int32} {fe : Nat → UInt64} {ft fr fp fl : Nat → Int32} {ff : Nat → UInt64} {n : Nat} (hn : 3 ≤ n ∧ n ≤ 6) {inf : Nat → Int32} (hI : ag1 n fi inf) {e : Nat → Nat → UInt64} (hE : ag2 n fe e) {T : Nat → Nat} (hT : ∀ j : Nat, j < 6 → ft j = nI (T j) ∧ T j < 64) {rt : Nat → Nat → Int32} (hR : ag2 n fr rt) {fs : Nat → UInt64} (hF : ag1 n ff fs) {op : Nat → Nat → Bool} (hT2 : ∀ i j : Nat, i < n → j < n → (T i).testBit j = op i j) (ho : ∀ i : Nat, i < n → okX n inf e i) (hq : qD q) : Met l yX0_roundAllRows wsX0_roundAllRows rX0_roundAllRows (va_Pc [.ref (q 0)] (wPre D (tys2 cI cD) (cW q cI cD (nI n) rC fi fo fw fe ft fr fp fl ff))) (va_Qv (fun (u : (Nat → Int32) × (Nat → UInt64)) => ag2 n u.1 (rall op n inf e n (rt, fs)).1 ∧ ag1 n u.2 (rall op n inf e n (rt, fs)).2) (fun u t => va_P D cls2 (cW q cI cD (nI n) rC fi fo fw fe ft u.1 fp fl u.2) t.heap) (qA q)) 0 0 (qA q) := by
  refine met_intro (cc := cX0_roundAllRows) (maxL := 2) (ret := none) (own := RX0) (by decide) rfl rfl (Nat.le_of_ble_eq_true rfl) ?_
  intro pp ee ss mm args below meth cd Q ls hQ S hr hlocks hv hB hl
  obtain ⟨hx, hb, hml, hown, hts⟩ := id S
  obtain ⟨hP, hK⟩ := hB
  have in_w : ∀ w ∈ wsX00, w ∈ wsX0_roundAllRows := by decide +kernel
  have fl_46 : Cond.fieldLink RX0 46 RX0 (TX0 9).2.1 (TX0 9).2.2.1 ∈ wsX0_roundAllRows := by decide +kernel
  have hS : va_S (qA q) ss.heap ss.heap [] := va_S.rf
  generalize hHg : ss.heap = H at hP
  have hS : va_S (qA q) ss.heap H [] := by rw [← hHg]; exact hS
  suffices hgo : ∀ locs : List Loc, va_S (qA q) ss.heap H locs → W pp l ee rX0_roundAllRows ss mm args below meth cd H locs 0 0 Q (F0 mm 0 ls []) by
    first | exact hgo [] hS | (rw [hHg]; exact hgo [] hS)
  clear hS
  intro locs hS
  have hl : lv_has ls 2 [(0, .ref (q 0))] := hl
  refine lv_iconst (v := nI 0) hx hb dX0_roundAllRows_0 (by decide) ?_
  refine lv_istore_n (lv' := [(1, .int (nI 0)), (0, .ref (q 0))]) hx hb dX0_roundAllRows_1 rfl hl (by decide) rfl (fun ls hl => ?_)
  have lp2 : ∀ (j k : Nat), k + j = n → ∀ (fr : Nat → Int32), ∀ (ff : Nat → UInt64), ∀ (H : Heap) (locs : List Loc), ag2 n fr ((rall op n inf e k (rt, fs)).1) → ag1 n ff ((rall op n inf e k (rt, fs)).2) → va_P D cls2 (cW q cI cD (nI n) rC fi fo fw fe ft fr fp fl ff) H → va_S (qA q) ss.heap H locs → ∀ ls : Array Slot, lv_has ls 2 [(0, .ref (q 0)), (1, .int (nI k))] → W pp l ee rX0_roundAllRows ss mm args below meth cd H locs 0 0 Q (F0 mm 2 ls []) := by
    intro j
    induction j with
    | zero =>
      intro k hk_k fr ff H locs hg_fr hg_ff hP hS ls hl
      have hke_k : n = k := by omega
      subst hke_k
      refine lv_iload_n hx hb dX0_roundAllRows_2 rfl (lv_at hl 1 rfl) ?_
      refine lv_aload_n hx hb dX0_roundAllRows_3 rfl (lv_at hl 0 rfl) ?_
      refine w_getC (own := RX0) (v := .int (nI n)) S in_w hK hP rfl 9 (by decide) fl_46 rfl rfl dX0_roundAllRows_4 ?_
      refine lv_icmp_ge (tgt := 21) hx hb dX0_roundAllRows_7 (by decide) (fun h7_0 => ?_) (fun h7_0 => absurd (Int32.le_refl _) h7_0)
      subst hQ
      exact W.vret hx hb hr (fun t ht hWm => ⟨⟨(fr, ff), rfl, ⟨hg_fr, hg_ff⟩, (show va_P D cls2 _ t.heap from by rw [ht]; exact hP)⟩, hS.F ht⟩) hS.2.2 dX0_roundAllRows_21
    | succ j ih =>
      intro k hk_k fr ff H locs hg_fr hg_ff hP hS ls hl
      have hlt_k : k < n := by omega
      refine lv_iload_n hx hb dX0_roundAllRows_2 rfl (lv_at hl 1 rfl) ?_
      refine lv_aload_n hx hb dX0_roundAllRows_3 rfl (lv_at hl 0 rfl) ?_
      refine w_getC (own := RX0) (v := .int (nI n)) S in_w hK hP rfl 9 (by decide) fl_46 rfl rfl dX0_roundAllRows_4 ?_
      refine lv_icmp_ge (tgt := 21) hx hb dX0_roundAllRows_7 (by decide) (fun h7_0 => absurd h7_0 (nI_ge hlt_k (by omega))) (fun h7_0 => ?_)
      refine lv_aload_n hx hb dX0_roundAllRows_10 rfl (lv_at hl 0 rfl) ?_
      refine lv_iload_n hx hb dX0_roundAllRows_11 rfl (lv_at hl 1 rfl) ?_
      refine va_callv (va_runV (As := [.int (nI k)]) (rest := []) S (c_X0_roundRow hn hI hE hT hg_fr hg_ff hT2 (i := k) (by omega) (ho k (by omega)) hq) (cwV 1 hts gX0_roundAllRows_X0_roundRow rfl rfl rfl hdX0_roundRow ⟨Nat.le_of_ble_eq_true rfl, Nat.le_of_ble_eq_true rfl⟩) (preV hK hP rfl rfl) rfl rfl hl.1 rfl (lv_room (Nat.le_of_ble_eq_true rfl)) dX0_roundAllRows_12 ⟨Nat.zero_le _, Nat.zero_le _⟩) hS (fun _ _ h => h) (fun _ h => h) (fun u_2 t H locs ht hvm hw_3 hB hz1 hk1 hS => ?_)
      replace hB : va_P D cls2 _ t.heap := hB
      rw [ht] at hB
      have hP : va_P D cls2 (cW q cI cD (nI n) rC fi fo fw fe ft u_2.1 fp fl u_2.2) H := hB
      refine lv_iinc (v := nI (k + 1)) (lv' := [(1, .int (nI (k + 1))), (0, .ref (q 0))]) hx hb dX0_roundAllRows_15 hl (k := 1) rfl (by rw [show Int32.ofInt 1 = nI 1 from by decide, nI_add]) (by decide) rfl (fun ls hl => ?_)
      refine lv_goto (tgt := 2) hx hb dX0_roundAllRows_18 (by decide) ?_
      have eq_4 : (rall op n inf e (k + 1) (rt, fs)).1 = (rrow op n inf e k (((rall op n inf e k (rt, fs)).1), ((rall op n inf e k (rt, fs)).2))).1 := by rfl
      have eq_5 : (rall op n inf e (k + 1) (rt, fs)).2 = (rrow op n inf e k (((rall op n inf e k (rt, fs)).1), ((rall op n inf e k (rt, fs)).2))).2 := by rfl
      exact ih (k + 1) (by omega) _ _ _ _ (by rw [eq_4]; exact hw_3.1) (by rw [eq_5]; exact hw_3.2) hP hS ls (lv_sub hl [1, 0] rfl)
  exact lp2 (n - 0) 0 (by omega) _ _ _ _ hR hF hP hS ls (lv_sub hl [1, 0] rfl)
abbrev rX0_fillPossibleTable : Room := { frames := 5, cells := 0, slots := 0, locals := 110 }
theorem hdX0_fillPossibleTable : yX0_fillPossibleTable.cls = RX0 ∧ yX0_fillPossibleTable.cls ≠ "java/lang/invoke/MethodHandle" ∧ yX0_fillPossibleTable.cls ≠ "java/lang/invoke/VarHandle" ∧ (parseMethodDescriptor yX0_fillPossibleTable.desc).map (fun d => d.parameters.length) = some 0 := by decide +kernel
set_option maxHeartbeats 4000000 in
set_option maxRecDepth 100000 in
theorem c_X0_fillPossibleTable {l : Launch} {D : va_G} {q : Nat → Nat} {cI cD : ClassId} {rC : Int32} {fi fo fw : Nat → Int32} {fe : Nat → UInt64} {ft fr fp fl : Nat → Int32} {ff : Nat → UInt64} {n : Nat} (hn : 3 ≤ n ∧ n ≤ 6) {inf : Nat → Int32} (hI : ag1 n fi inf) {out : Nat → Int32} (hO : ag1 n fo out) {T : Nat → Nat} (hT : ∀ j : Nat, j < 6 → ft j = nI (T j) ∧ T j < 64) {pt : Nat → Nat → Int32} (hp : ag2 n fp pt) {op : Nat → Nat → Bool} (hT2 : ∀ i j : Nat, i < n → j < n → (T i).testBit j = op i j)  (hq : qD q) : Met l yX0_fillPossibleTable wsX0_fillPossibleTable rX0_fillPossibleTable (va_Pc [.ref (q 0)] (wPre D (tys2 cI cD) (cW q cI cD (nI n) rC fi fo fw fe ft fr fp fl ff))) (va_Qv (fun (u : (Nat → Int32) × (Nat → Int32)) => ag2 n u.1 (tbO n op inf (psb n op inf out) n (pt, out)).1) (fun u t => va_P D cls2 (cW q cI cD (nI n) rC fi fo fw fe ft fr u.1 u.2 ff) t.heap) (qA q)) 0 0 (qA q) := by
  refine met_intro (cc := cX0_fillPossibleTable) (maxL := 6) (ret := none) (own := RX0) (by decide) rfl rfl (Nat.le_of_ble_eq_true rfl) ?_
  intro pp ee ss mm args below meth cd Q ls hQ S hr hlocks hv hB hl
  obtain ⟨hx, hb, hml, hown, hts⟩ := id S
  obtain ⟨hP, hK⟩ := hB
  have in_w : ∀ w ∈ wsX00, w ∈ wsX0_fillPossibleTable := by decide +kernel
  have fl_9 : Cond.fieldLink RX0 9 RX0 (TX0 0).2.1 (TX0 0).2.2.1 ∈ wsX0_fillPossibleTable := by decide +kernel
  have fl_13 : Cond.fieldLink RX0 13 RX0 (TX0 1).2.1 (TX0 1).2.2.1 ∈ wsX0_fillPossibleTable := by decide +kernel
  have fl_29 : Cond.fieldLink RX0 29 RX0 (TX0 6).2.1 (TX0 6).2.2.1 ∈ wsX0_fillPossibleTable := by decide +kernel
  have fl_32 : Cond.fieldLink RX0 32 RX0 (TX0 7).2.1 (TX0 7).2.2.1 ∈ wsX0_fillPossibleTable := by decide +kernel
  have fl_46 : Cond.fieldLink RX0 46 RX0 (TX0 9).2.1 (TX0 9).2.2.1 ∈ wsX0_fillPossibleTable := by decide +kernel
  have hS : va_S (qA q) ss.heap ss.heap [] := va_S.rf
  generalize hHg : ss.heap = H at hP
  have hS : va_S (qA q) ss.heap H [] := by rw [← hHg]; exact hS
  suffices hgo : ∀ locs : List Loc, va_S (qA q) ss.heap H locs → W pp l ee rX0_fillPossibleTable ss mm args below meth cd H locs 0 0 Q (F0 mm 0 ls []) by
    first | exact hgo [] hS | (rw [hHg]; exact hgo [] hS)
  clear hS
  intro locs hS
  have hl : lv_has ls 6 [(0, .ref (q 0))] := hl
  refine lv_aload_n hx hb dX0_fillPossibleTable_0 rfl (lv_at hl 0 rfl) ?_
  refine vp_callSi (W.runV (As := []) (rest := []) S (c_X0_isPossible hn hI hO hT hT2) (cwV 0 hts gX0_fillPossibleTable_X0_isPossible rfl rfl rfl hdX0_isPossible ⟨Nat.le_of_ble_eq_true rfl, Nat.le_of_ble_eq_true rfl⟩) (preV hK hP rfl rfl) rfl rfl hl.1 rfl (lv_room (Nat.le_of_ble_eq_true rfl)) dX0_fillPossibleTable_1 ⟨Nat.zero_le _, Nat.zero_le _⟩) (fun r_1 er_1 => ?_)
  subst er_1
  refine lv_istore_n (lv' := [(1, .int (bI (psb n op inf out))), (0, .ref (q 0))]) hx hb dX0_fillPossibleTable_4 rfl hl (by decide) rfl (fun ls hl => ?_)
  refine lv_aload_n hx hb dX0_fillPossibleTable_5 rfl (lv_at hl 1 rfl) ?_
  refine w_getC (own := RX0) (v := .ref (q 2)) S in_w hK hP rfl 1 (by decide) fl_13 rfl rfl dX0_fillPossibleTable_6 ?_
  refine lv_iconst (v := nI 0) hx hb dX0_fillPossibleTable_9 (by decide) ?_
  refine lv_aload_n hx hb dX0_fillPossibleTable_10 rfl (lv_at hl 1 rfl) ?_
  refine w_getC (own := RX0) (v := .ref (q 8)) S in_w hK hP rfl 7 (by decide) fl_32 rfl rfl dX0_fillPossibleTable_11 ?_
  refine lv_iconst (v := nI 0) hx hb dX0_fillPossibleTable_14 (by decide) ?_
  refine lv_bipush (v := nI 6) hx hb dX0_fillPossibleTable_15 (by decide) ?_
  refine va_copyi hx hb (hml.trans hl.1.symm) hown (hts (.methodLink RX0 179 arraycopyName) (by decide +kernel)) (hts (.native arraycopyName) (by decide +kernel)) (hts (.static arraycopyName) (by decide +kernel)) (hts (.initialized "java/lang/System") (by decide +kernel)) hK hP (wD_of hq rfl) hS 2 8 0 0 rfl rfl rfl rfl rfl (by decide) (by decide) (by decide) (by decide) (by decide) (fun _ _ => rfl) (Nat.le_of_ble_eq_true rfl) (by decide) dX0_fillPossibleTable_17 (fun H locs hP _ hS => ?_)
  have hP : va_P D cls2 (cW q cI cD (nI n) rC fi fo fw fe ft fr fp (va_cpy fo fl (nI 0).toNatClampNeg (nI 0).toNatClampNeg (nI 6).toNatClampNeg) ff) H := hP
  have g_3 : ag1 n (va_cpy fo fl (nI 0).toNatClampNeg (nI 0).toNatClampNeg (nI 6).toNatClampNeg) out := cpy_ag hn.2 hO
  generalize va_cpy fo fl (nI 0).toNatClampNeg (nI 0).toNatClampNeg (nI 6).toNatClampNeg = a_2 at hP g_3
  refine lv_iconst (v := nI 0) hx hb dX0_fillPossibleTable_20 (by decide) ?_
  refine lv_istore_n (lv' := [(2, .int (nI 0)), (1, .int (bI (psb n op inf out))), (0, .ref (q 0))]) hx hb dX0_fillPossibleTable_21 rfl hl (by decide) rfl (fun ls hl => ?_)
  have lp22 : ∀ (j i : Nat), i + j = n → ∀ (fp : Nat → Int32), ∀ (fl : Nat → Int32), ∀ (H : Heap) (locs : List Loc), ag2 n fp ((tbO n op inf (psb n op inf out) i (pt, out)).1) → ag1 n fl ((tbO n op inf (psb n op inf out) i (pt, out)).2) → va_P D cls2 (cW q cI cD (nI n) rC fi fo fw fe ft fr fp fl ff) H → va_S (qA q) ss.heap H locs → ∀ ls : Array Slot, lv_has ls 6 [(0, .ref (q 0)), (1, .int (bI (psb n op inf out))), (2, .int (nI i))] → W pp l ee rX0_fillPossibleTable ss mm args below meth cd H locs 0 0 Q (F0 mm 22 ls []) := by
    intro j
    induction j with
    | zero =>
      intro i hk_i fp fl H locs hg_fp hg_fl hP hS ls hl
      have hke_i : n = i := by omega
      subst hke_i
      refine lv_iload_n hx hb dX0_fillPossibleTable_22 rfl (lv_at hl 2 rfl) ?_
      refine lv_aload_n hx hb dX0_fillPossibleTable_23 rfl (lv_at hl 0 rfl) ?_
      refine w_getC (own := RX0) (v := .int (nI n)) S in_w hK hP rfl 9 (by decide) fl_46 rfl rfl dX0_fillPossibleTable_24 ?_
      refine lv_icmp_ge (tgt := 113) hx hb dX0_fillPossibleTable_27 (by decide) (fun h27_0 => ?_) (fun h27_0 => absurd (Int32.le_refl _) h27_0)
      subst hQ
      exact W.vret hx hb hr (fun t ht hWm => ⟨⟨(fp, fl), rfl, hg_fp, (show va_P D cls2 _ t.heap from by rw [ht]; exact hP)⟩, hS.F ht⟩) hS.2.2 dX0_fillPossibleTable_113
    | succ j ih =>
      intro i hk_i fp fl H locs hg_fp hg_fl hP hS ls hl
      have hlt_i : i < n := by omega
      refine lv_iload_n hx hb dX0_fillPossibleTable_22 rfl (lv_at hl 2 rfl) ?_
      refine lv_aload_n hx hb dX0_fillPossibleTable_23 rfl (lv_at hl 0 rfl) ?_
      refine w_getC (own := RX0) (v := .int (nI n)) S in_w hK hP rfl 9 (by decide) fl_46 rfl rfl dX0_fillPossibleTable_24 ?_
      refine lv_icmp_ge (tgt := 113) hx hb dX0_fillPossibleTable_27 (by decide) (fun h27_0 => absurd h27_0 (nI_ge hlt_i (by omega))) (fun h27_0 => ?_)
      refine lv_aload_n hx hb dX0_fillPossibleTable_30 rfl (lv_at hl 0 rfl) ?_
      refine w_getC (own := RX0) (v := .ref (q 1)) S in_w hK hP rfl 0 (by decide) fl_9 rfl rfl dX0_fillPossibleTable_31 ?_
      refine lv_iload_n hx hb dX0_fillPossibleTable_34 rfl (lv_at hl 2 rfl) ?_
      refine w_iald hx hb hK hP 1 0 rfl rfl (j := i) (v := inf i) (hI i (by omega)) (by omega) (by decide) dX0_fillPossibleTable_35 ?_
      refine lv_istore_n (lv' := [(3, .int (inf i)), (0, .ref (q 0)), (1, .int (bI (psb n op inf out))), (2, .int (nI i))]) hx hb dX0_fillPossibleTable_36 rfl hl (by decide) rfl (fun ls hl => ?_)
      refine lv_iconst (v := nI 0) hx hb dX0_fillPossibleTable_37 (by decide) ?_
      refine lv_istore (lv' := [(4, .int (nI 0)), (3, .int (inf i)), (0, .ref (q 0)), (1, .int (bI (psb n op inf out))), (2, .int (nI i))]) hx hb dX0_fillPossibleTable_38 hl (by decide) rfl (fun ls hl => ?_)
      have lp40 : ∀ (j k : Nat), k + j = n → ∀ (fp : Nat → Int32), ∀ (fl : Nat → Int32), ∀ (H : Heap) (locs : List Loc), ag2 n fp ((tbI n op inf (psb n op inf out) i k ((tbO n op inf (psb n op inf out) i (pt, out)).1, (tbO n op inf (psb n op inf out) i (pt, out)).2, inf i)).1) → ag1 n fl ((tbI n op inf (psb n op inf out) i k ((tbO n op inf (psb n op inf out) i (pt, out)).1, (tbO n op inf (psb n op inf out) i (pt, out)).2, inf i)).2.1) → va_P D cls2 (cW q cI cD (nI n) rC fi fo fw fe ft fr fp fl ff) H → va_S (qA q) ss.heap H locs → ∀ ls : Array Slot, lv_has ls 6 [(0, .ref (q 0)), (1, .int (bI (psb n op inf out))), (2, .int (nI i)), (3, .int ((tbI n op inf (psb n op inf out) i k ((tbO n op inf (psb n op inf out) i (pt, out)).1, (tbO n op inf (psb n op inf out) i (pt, out)).2, inf i)).2.2)), (4, .int (nI k))] → W pp l ee rX0_fillPossibleTable ss mm args below meth cd H locs 0 0 Q (F0 mm 40 ls []) := by
        intro j
        induction j with
        | zero =>
          intro k hk_k fp fl H locs hg_fp hg_fl hP hS ls hl
          have hke_k : n = k := by omega
          subst hke_k
          refine lv_iload hx hb dX0_fillPossibleTable_40 (lv_at hl 4 rfl) ?_
          refine lv_aload_n hx hb dX0_fillPossibleTable_42 rfl (lv_at hl 0 rfl) ?_
          refine w_getC (own := RX0) (v := .int (nI n)) S in_w hK hP rfl 9 (by decide) fl_46 rfl rfl dX0_fillPossibleTable_43 ?_
          refine lv_icmp_ge (tgt := 107) hx hb dX0_fillPossibleTable_46 (by decide) (fun h46_1 => ?_) (fun h46_1 => absurd (Int32.le_refl _) h46_1)
          refine lv_iinc (v := nI (i + 1)) (lv' := [(2, .int (nI (i + 1))), (0, .ref (q 0)), (1, .int (bI (psb n op inf out))), (3, .int ((tbI n op inf (psb n op inf out) i n ((tbO n op inf (psb n op inf out) i (pt, out)).1, (tbO n op inf (psb n op inf out) i (pt, out)).2, inf i)).2.2)), (4, .int (nI n))]) hx hb dX0_fillPossibleTable_107 hl (k := 2) rfl (by rw [show Int32.ofInt 1 = nI 1 from by decide, nI_add]) (by decide) rfl (fun ls hl => ?_)
          refine lv_goto (tgt := 22) hx hb dX0_fillPossibleTable_110 (by decide) ?_
          have eq_4 : (tbO n op inf (psb n op inf out) (i + 1) (pt, out)).1 = (tbI n op inf (psb n op inf out) i n ((tbO n op inf (psb n op inf out) i (pt, out)).1, (tbO n op inf (psb n op inf out) i (pt, out)).2, inf i)).1 := by rfl
          have eq_5 : (tbO n op inf (psb n op inf out) (i + 1) (pt, out)).2 = (tbI n op inf (psb n op inf out) i n ((tbO n op inf (psb n op inf out) i (pt, out)).1, (tbO n op inf (psb n op inf out) i (pt, out)).2, inf i)).2.1 := by rfl
          exact ih (i + 1) (by omega) _ _ _ _ (by rw [eq_4]; exact hg_fp) (by rw [eq_5]; exact hg_fl) hP hS ls (lv_sub hl [1, 2, 0] rfl)
        | succ j ih =>
          intro k hk_k fp fl H locs hg_fp hg_fl hP hS ls hl
          have hlt_k : k < n := by omega
          refine lv_iload hx hb dX0_fillPossibleTable_40 (lv_at hl 4 rfl) ?_
          refine lv_aload_n hx hb dX0_fillPossibleTable_42 rfl (lv_at hl 0 rfl) ?_
          refine w_getC (own := RX0) (v := .int (nI n)) S in_w hK hP rfl 9 (by decide) fl_46 rfl rfl dX0_fillPossibleTable_43 ?_
          refine lv_icmp_ge (tgt := 107) hx hb dX0_fillPossibleTable_46 (by decide) (fun h46_1 => absurd h46_1 (nI_ge hlt_k (by omega))) (fun h46_1 => ?_)
          refine lv_iload_n hx hb dX0_fillPossibleTable_49 rfl (lv_at hl 1 rfl) ?_
          refine w_ifBeq (tgt := 64) hx hb dX0_fillPossibleTable_50 (by decide) (fun h50_2 => ?_) (fun h50_2 => ?_)
          · refine lv_iconst (v := -1) hx hb dX0_fillPossibleTable_64 (by decide) ?_
            refine lv_istore (lv' := [(5, .int (-1)), (0, .ref (q 0)), (1, .int (bI (psb n op inf out))), (2, .int (nI i)), (3, .int ((tbI n op inf (psb n op inf out) i k ((tbO n op inf (psb n op inf out) i (pt, out)).1, (tbO n op inf (psb n op inf out) i (pt, out)).2, inf i)).2.2)), (4, .int (nI k))]) hx hb dX0_fillPossibleTable_65 hl (by decide) rfl (fun ls hl => ?_)
            refine lv_aload_n hx hb dX0_fillPossibleTable_67 rfl (lv_at hl 1 rfl) ?_
            refine w_getC (own := RX0) (v := .ref (q 7)) S in_w hK hP rfl 6 (by decide) fl_29 rfl rfl dX0_fillPossibleTable_68 ?_
            refine lv_iload_n hx hb dX0_fillPossibleTable_71 rfl (lv_at hl 3 rfl) ?_
            refine lv_iload hx hb dX0_fillPossibleTable_72 (lv_at hl 5 rfl) ?_
            refine vp_callSi (W.runS (As := [.int (nI i), .int (nI k)]) (rest := [.ref (q 7)]) S (c_X0_turn (i := i) (k := k)) (va_cwS 2 hts gX0_fillPossibleTable_X0_turn rfl rfl rfl hdX0_turn ⟨Nat.le_of_ble_eq_true rfl, Nat.le_of_ble_eq_true rfl⟩) preS rfl rfl hl.1 rfl (lv_room (Nat.le_of_ble_eq_true rfl)) dX0_fillPossibleTable_74 ⟨Nat.zero_le _, Nat.zero_le _⟩) (fun r_6 er_6 => ?_)
            subst er_6
            refine lv_iload hx hb dX0_fillPossibleTable_77 (lv_at hl 0 rfl) ?_
            refine w_iast hx hb hK hP (wD_of hq rfl) hS 7 0 rfl rfl (j := 6 * i + k) (x := (-1)) (by omega) (by decide) dX0_fillPossibleTable_79 (fun H locs hP _ hS => ?_)
            have hP : va_P D cls2 (cW q cI cD (nI n) rC fi fo fw fe ft fr (upd fp (6 * i + k) (-1)) fl ff) H := hP
            have g_8 : ag2 n (upd fp (6 * i + k) (-1)) (upd2 ((tbI n op inf (psb n op inf out) i k ((tbO n op inf (psb n op inf out) i (pt, out)).1, (tbO n op inf (psb n op inf out) i (pt, out)).2, inf i)).1) i k (-1)) := (ag2_upd hg_fp hn.2 (i := i) (j := k) (by omega) (-1))
            generalize (upd fp (6 * i + k) (-1)) = a_7 at hP g_8
            refine lv_iload_n hx hb dX0_fillPossibleTable_80 rfl (lv_at hl 2 rfl) ?_
            refine w_ifBeq (tgt := 101) hx hb dX0_fillPossibleTable_81 (by decide) (fun h81_3 => ?_) (fun h81_3 => absurd (h50_2) (by rw [h81_3]; decide))
            refine lv_iinc (v := nI (k + 1)) (lv' := [(4, .int (nI (k + 1))), (5, .int (-1)), (0, .ref (q 0)), (1, .int (bI (psb n op inf out))), (2, .int (nI i)), (3, .int ((tbI n op inf (psb n op inf out) i k ((tbO n op inf (psb n op inf out) i (pt, out)).1, (tbO n op inf (psb n op inf out) i (pt, out)).2, inf i)).2.2))]) hx hb dX0_fillPossibleTable_101 hl (k := 5) rfl (by rw [show Int32.ofInt 1 = nI 1 from by decide, nI_add]) (by decide) rfl (fun ls hl => ?_)
            refine lv_goto (tgt := 40) hx hb dX0_fillPossibleTable_104 (by decide) ?_
            have eq_9 : (tbI n op inf (psb n op inf out) i (k + 1) ((tbO n op inf (psb n op inf out) i (pt, out)).1, (tbO n op inf (psb n op inf out) i (pt, out)).2, inf i)).2.2 = (tbI n op inf (psb n op inf out) i k ((tbO n op inf (psb n op inf out) i (pt, out)).1, (tbO n op inf (psb n op inf out) i (pt, out)).2, inf i)).2.2 := by (show (tbB n op inf (psb n op inf out) i k (tbI n op inf (psb n op inf out) i k ((tbO n op inf (psb n op inf out) i (pt, out)).1, (tbO n op inf (psb n op inf out) i (pt, out)).2, inf i))).2.2 = _; unfold tbB; simp only [h81_3, reduceIte, Bool.false_eq_true])
            have eq_10 : (tbI n op inf (psb n op inf out) i (k + 1) ((tbO n op inf (psb n op inf out) i (pt, out)).1, (tbO n op inf (psb n op inf out) i (pt, out)).2, inf i)).1 = upd2 ((tbI n op inf (psb n op inf out) i k ((tbO n op inf (psb n op inf out) i (pt, out)).1, (tbO n op inf (psb n op inf out) i (pt, out)).2, inf i)).1) i k (-1) := by (show (tbB n op inf (psb n op inf out) i k (tbI n op inf (psb n op inf out) i k ((tbO n op inf (psb n op inf out) i (pt, out)).1, (tbO n op inf (psb n op inf out) i (pt, out)).2, inf i))).1 = _; unfold tbB; simp only [h81_3, reduceIte, Bool.false_eq_true])
            have eq_11 : (tbI n op inf (psb n op inf out) i (k + 1) ((tbO n op inf (psb n op inf out) i (pt, out)).1, (tbO n op inf (psb n op inf out) i (pt, out)).2, inf i)).2.1 = (tbI n op inf (psb n op inf out) i k ((tbO n op inf (psb n op inf out) i (pt, out)).1, (tbO n op inf (psb n op inf out) i (pt, out)).2, inf i)).2.1 := by (show (tbB n op inf (psb n op inf out) i k (tbI n op inf (psb n op inf out) i k ((tbO n op inf (psb n op inf out) i (pt, out)).1, (tbO n op inf (psb n op inf out) i (pt, out)).2, inf i))).2.1 = _; unfold tbB; simp only [h81_3, reduceIte, Bool.false_eq_true])
            have hl : lv_has ls 6 [(4, .int (nI (k + 1))), (5, .int (-1)), (0, .ref (q 0)), (1, .int (bI (psb n op inf out))), (2, .int (nI i)), (3, .int ((tbI n op inf (psb n op inf out) i (k + 1) ((tbO n op inf (psb n op inf out) i (pt, out)).1, (tbO n op inf (psb n op inf out) i (pt, out)).2, inf i)).2.2))] := by first | exact hl | (rw [eq_9]; exact hl)
            exact ih (k + 1) (by omega) _ _ _ _ (by rw [eq_10]; exact g_8) (by rw [eq_11]; exact hg_fl) hP hS ls (lv_sub hl [2, 3, 4, 5, 0] rfl)
          · refine lv_aload_n hx hb dX0_fillPossibleTable_53 rfl (lv_at hl 0 rfl) ?_
            refine lv_iload_n hx hb dX0_fillPossibleTable_54 rfl (lv_at hl 2 rfl) ?_
            refine lv_iload hx hb dX0_fillPossibleTable_55 (lv_at hl 4 rfl) ?_
            refine lv_iload_n hx hb dX0_fillPossibleTable_57 rfl (lv_at hl 3 rfl) ?_
            refine vp_callSi (W.runV (As := [.int (nI i), .int (nI k), .int ((tbI n op inf (psb n op inf out) i k ((tbO n op inf (psb n op inf out) i (pt, out)).1, (tbO n op inf (psb n op inf out) i (pt, out)).2, inf i)).2.2)]) (rest := []) S (c_X0_greatestPossible hn hI hT hg_fl hT2 (i := i) (k0 := k) (x0 := (tbI n op inf (psb n op inf out) i k ((tbO n op inf (psb n op inf out) i (pt, out)).1, (tbO n op inf (psb n op inf out) i (pt, out)).2, inf i)).2.2) (by omega) (by omega)) (cwV 3 hts gX0_fillPossibleTable_X0_greatestPossible rfl rfl rfl hdX0_greatestPossible ⟨Nat.le_of_ble_eq_true rfl, Nat.le_of_ble_eq_true rfl⟩) (preV hK hP rfl rfl) rfl rfl hl.1 rfl (lv_room (Nat.le_of_ble_eq_true rfl)) dX0_fillPossibleTable_58 ⟨Nat.zero_le _, Nat.zero_le _⟩) (fun r_12 er_12 => ?_)
            subst er_12
            refine lv_goto (tgt := 65) hx hb dX0_fillPossibleTable_61 (by decide) ?_
            refine lv_istore (lv' := [(5, .int (gps n op inf ((tbI n op inf (psb n op inf out) i k ((tbO n op inf (psb n op inf out) i (pt, out)).1, (tbO n op inf (psb n op inf out) i (pt, out)).2, inf i)).2.1) i k ((tbI n op inf (psb n op inf out) i k ((tbO n op inf (psb n op inf out) i (pt, out)).1, (tbO n op inf (psb n op inf out) i (pt, out)).2, inf i)).2.2))), (0, .ref (q 0)), (1, .int (bI (psb n op inf out))), (2, .int (nI i)), (3, .int ((tbI n op inf (psb n op inf out) i k ((tbO n op inf (psb n op inf out) i (pt, out)).1, (tbO n op inf (psb n op inf out) i (pt, out)).2, inf i)).2.2)), (4, .int (nI k))]) hx hb dX0_fillPossibleTable_65 hl (by decide) rfl (fun ls hl => ?_)
            refine lv_aload_n hx hb dX0_fillPossibleTable_67 rfl (lv_at hl 1 rfl) ?_
            refine w_getC (own := RX0) (v := .ref (q 7)) S in_w hK hP rfl 6 (by decide) fl_29 rfl rfl dX0_fillPossibleTable_68 ?_
            refine lv_iload_n hx hb dX0_fillPossibleTable_71 rfl (lv_at hl 3 rfl) ?_
            refine lv_iload hx hb dX0_fillPossibleTable_72 (lv_at hl 5 rfl) ?_
            refine vp_callSi (W.runS (As := [.int (nI i), .int (nI k)]) (rest := [.ref (q 7)]) S (c_X0_turn (i := i) (k := k)) (va_cwS 2 hts gX0_fillPossibleTable_X0_turn rfl rfl rfl hdX0_turn ⟨Nat.le_of_ble_eq_true rfl, Nat.le_of_ble_eq_true rfl⟩) preS rfl rfl hl.1 rfl (lv_room (Nat.le_of_ble_eq_true rfl)) dX0_fillPossibleTable_74 ⟨Nat.zero_le _, Nat.zero_le _⟩) (fun r_13 er_13 => ?_)
            subst er_13
            refine lv_iload hx hb dX0_fillPossibleTable_77 (lv_at hl 0 rfl) ?_
            refine w_iast hx hb hK hP (wD_of hq rfl) hS 7 0 rfl rfl (j := 6 * i + k) (x := gps n op inf ((tbI n op inf (psb n op inf out) i k ((tbO n op inf (psb n op inf out) i (pt, out)).1, (tbO n op inf (psb n op inf out) i (pt, out)).2, inf i)).2.1) i k ((tbI n op inf (psb n op inf out) i k ((tbO n op inf (psb n op inf out) i (pt, out)).1, (tbO n op inf (psb n op inf out) i (pt, out)).2, inf i)).2.2)) (by omega) (by decide) dX0_fillPossibleTable_79 (fun H locs hP _ hS => ?_)
            have hP : va_P D cls2 (cW q cI cD (nI n) rC fi fo fw fe ft fr (upd fp (6 * i + k) (gps n op inf ((tbI n op inf (psb n op inf out) i k ((tbO n op inf (psb n op inf out) i (pt, out)).1, (tbO n op inf (psb n op inf out) i (pt, out)).2, inf i)).2.1) i k ((tbI n op inf (psb n op inf out) i k ((tbO n op inf (psb n op inf out) i (pt, out)).1, (tbO n op inf (psb n op inf out) i (pt, out)).2, inf i)).2.2))) fl ff) H := hP
            have g_15 : ag2 n (upd fp (6 * i + k) (gps n op inf ((tbI n op inf (psb n op inf out) i k ((tbO n op inf (psb n op inf out) i (pt, out)).1, (tbO n op inf (psb n op inf out) i (pt, out)).2, inf i)).2.1) i k ((tbI n op inf (psb n op inf out) i k ((tbO n op inf (psb n op inf out) i (pt, out)).1, (tbO n op inf (psb n op inf out) i (pt, out)).2, inf i)).2.2))) (upd2 ((tbI n op inf (psb n op inf out) i k ((tbO n op inf (psb n op inf out) i (pt, out)).1, (tbO n op inf (psb n op inf out) i (pt, out)).2, inf i)).1) i k (gps n op inf ((tbI n op inf (psb n op inf out) i k ((tbO n op inf (psb n op inf out) i (pt, out)).1, (tbO n op inf (psb n op inf out) i (pt, out)).2, inf i)).2.1) i k ((tbI n op inf (psb n op inf out) i k ((tbO n op inf (psb n op inf out) i (pt, out)).1, (tbO n op inf (psb n op inf out) i (pt, out)).2, inf i)).2.2))) := (ag2_upd hg_fp hn.2 (i := i) (j := k) (by omega) (gps n op inf ((tbI n op inf (psb n op inf out) i k ((tbO n op inf (psb n op inf out) i (pt, out)).1, (tbO n op inf (psb n op inf out) i (pt, out)).2, inf i)).2.1) i k ((tbI n op inf (psb n op inf out) i k ((tbO n op inf (psb n op inf out) i (pt, out)).1, (tbO n op inf (psb n op inf out) i (pt, out)).2, inf i)).2.2)))
            generalize (upd fp (6 * i + k) (gps n op inf ((tbI n op inf (psb n op inf out) i k ((tbO n op inf (psb n op inf out) i (pt, out)).1, (tbO n op inf (psb n op inf out) i (pt, out)).2, inf i)).2.1) i k ((tbI n op inf (psb n op inf out) i k ((tbO n op inf (psb n op inf out) i (pt, out)).1, (tbO n op inf (psb n op inf out) i (pt, out)).2, inf i)).2.2))) = a_14 at hP g_15
            refine lv_iload_n hx hb dX0_fillPossibleTable_80 rfl (lv_at hl 2 rfl) ?_
            refine w_ifBeq (tgt := 101) hx hb dX0_fillPossibleTable_81 (by decide) (fun h81_3 => absurd (h50_2) (by rw [h81_3]; decide)) (fun h81_3 => ?_)
            refine lv_iload_n hx hb dX0_fillPossibleTable_84 rfl (lv_at hl 4 rfl) ?_
            refine lv_iload hx hb dX0_fillPossibleTable_85 (lv_at hl 0 rfl) ?_
            refine lv_isub hx hb dX0_fillPossibleTable_87 ?_
            refine lv_istore_n (lv' := [(3, .int (((tbI n op inf (psb n op inf out) i k ((tbO n op inf (psb n op inf out) i (pt, out)).1, (tbO n op inf (psb n op inf out) i (pt, out)).2, inf i)).2.2) - (gps n op inf ((tbI n op inf (psb n op inf out) i k ((tbO n op inf (psb n op inf out) i (pt, out)).1, (tbO n op inf (psb n op inf out) i (pt, out)).2, inf i)).2.1) i k ((tbI n op inf (psb n op inf out) i k ((tbO n op inf (psb n op inf out) i (pt, out)).1, (tbO n op inf (psb n op inf out) i (pt, out)).2, inf i)).2.2)))), (5, .int (gps n op inf ((tbI n op inf (psb n op inf out) i k ((tbO n op inf (psb n op inf out) i (pt, out)).1, (tbO n op inf (psb n op inf out) i (pt, out)).2, inf i)).2.1) i k ((tbI n op inf (psb n op inf out) i k ((tbO n op inf (psb n op inf out) i (pt, out)).1, (tbO n op inf (psb n op inf out) i (pt, out)).2, inf i)).2.2))), (0, .ref (q 0)), (1, .int (bI (psb n op inf out))), (2, .int (nI i)), (4, .int (nI k))]) hx hb dX0_fillPossibleTable_88 rfl hl (by decide) rfl (fun ls hl => ?_)
            refine lv_aload_n hx hb dX0_fillPossibleTable_89 rfl (lv_at hl 2 rfl) ?_
            refine w_getC (own := RX0) (v := .ref (q 8)) S in_w hK hP rfl 7 (by decide) fl_32 rfl rfl dX0_fillPossibleTable_90 ?_
            refine lv_iload hx hb dX0_fillPossibleTable_93 (lv_at hl 5 rfl) ?_
            refine lv_dup2_11 hx hb dX0_fillPossibleTable_95 rfl rfl ?_
            refine w_iald hx hb hK hP 8 0 rfl rfl (j := k) (v := ((tbI n op inf (psb n op inf out) i k ((tbO n op inf (psb n op inf out) i (pt, out)).1, (tbO n op inf (psb n op inf out) i (pt, out)).2, inf i)).2.1) k) (hg_fl k (by omega)) (by omega) (by decide) dX0_fillPossibleTable_96 ?_
            refine lv_iload hx hb dX0_fillPossibleTable_97 (lv_at hl 1 rfl) ?_
            refine lv_isub hx hb dX0_fillPossibleTable_99 ?_
            refine w_iast hx hb hK hP (wD_of hq rfl) hS 8 0 rfl rfl (j := k) (x := (((tbI n op inf (psb n op inf out) i k ((tbO n op inf (psb n op inf out) i (pt, out)).1, (tbO n op inf (psb n op inf out) i (pt, out)).2, inf i)).2.1) k) - (gps n op inf ((tbI n op inf (psb n op inf out) i k ((tbO n op inf (psb n op inf out) i (pt, out)).1, (tbO n op inf (psb n op inf out) i (pt, out)).2, inf i)).2.1) i k ((tbI n op inf (psb n op inf out) i k ((tbO n op inf (psb n op inf out) i (pt, out)).1, (tbO n op inf (psb n op inf out) i (pt, out)).2, inf i)).2.2))) (by omega) (by decide) dX0_fillPossibleTable_100 (fun H locs hP _ hS => ?_)
            have hP : va_P D cls2 (cW q cI cD (nI n) rC fi fo fw fe ft fr a_14 (upd fl k ((((tbI n op inf (psb n op inf out) i k ((tbO n op inf (psb n op inf out) i (pt, out)).1, (tbO n op inf (psb n op inf out) i (pt, out)).2, inf i)).2.1) k) - (gps n op inf ((tbI n op inf (psb n op inf out) i k ((tbO n op inf (psb n op inf out) i (pt, out)).1, (tbO n op inf (psb n op inf out) i (pt, out)).2, inf i)).2.1) i k ((tbI n op inf (psb n op inf out) i k ((tbO n op inf (psb n op inf out) i (pt, out)).1, (tbO n op inf (psb n op inf out) i (pt, out)).2, inf i)).2.2)))) ff) H := hP
            have g_17 : ag1 n (upd fl k ((((tbI n op inf (psb n op inf out) i k ((tbO n op inf (psb n op inf out) i (pt, out)).1, (tbO n op inf (psb n op inf out) i (pt, out)).2, inf i)).2.1) k) - (gps n op inf ((tbI n op inf (psb n op inf out) i k ((tbO n op inf (psb n op inf out) i (pt, out)).1, (tbO n op inf (psb n op inf out) i (pt, out)).2, inf i)).2.1) i k ((tbI n op inf (psb n op inf out) i k ((tbO n op inf (psb n op inf out) i (pt, out)).1, (tbO n op inf (psb n op inf out) i (pt, out)).2, inf i)).2.2)))) (upd ((tbI n op inf (psb n op inf out) i k ((tbO n op inf (psb n op inf out) i (pt, out)).1, (tbO n op inf (psb n op inf out) i (pt, out)).2, inf i)).2.1) k ((((tbI n op inf (psb n op inf out) i k ((tbO n op inf (psb n op inf out) i (pt, out)).1, (tbO n op inf (psb n op inf out) i (pt, out)).2, inf i)).2.1) k) - (gps n op inf ((tbI n op inf (psb n op inf out) i k ((tbO n op inf (psb n op inf out) i (pt, out)).1, (tbO n op inf (psb n op inf out) i (pt, out)).2, inf i)).2.1) i k ((tbI n op inf (psb n op inf out) i k ((tbO n op inf (psb n op inf out) i (pt, out)).1, (tbO n op inf (psb n op inf out) i (pt, out)).2, inf i)).2.2)))) := (ag1_upd hg_fl k ((((tbI n op inf (psb n op inf out) i k ((tbO n op inf (psb n op inf out) i (pt, out)).1, (tbO n op inf (psb n op inf out) i (pt, out)).2, inf i)).2.1) k) - (gps n op inf ((tbI n op inf (psb n op inf out) i k ((tbO n op inf (psb n op inf out) i (pt, out)).1, (tbO n op inf (psb n op inf out) i (pt, out)).2, inf i)).2.1) i k ((tbI n op inf (psb n op inf out) i k ((tbO n op inf (psb n op inf out) i (pt, out)).1, (tbO n op inf (psb n op inf out) i (pt, out)).2, inf i)).2.2))))
            generalize (upd fl k ((((tbI n op inf (psb n op inf out) i k ((tbO n op inf (psb n op inf out) i (pt, out)).1, (tbO n op inf (psb n op inf out) i (pt, out)).2, inf i)).2.1) k) - (gps n op inf ((tbI n op inf (psb n op inf out) i k ((tbO n op inf (psb n op inf out) i (pt, out)).1, (tbO n op inf (psb n op inf out) i (pt, out)).2, inf i)).2.1) i k ((tbI n op inf (psb n op inf out) i k ((tbO n op inf (psb n op inf out) i (pt, out)).1, (tbO n op inf (psb n op inf out) i (pt, out)).2, inf i)).2.2)))) = a_16 at hP g_17
            refine lv_iinc (v := nI (k + 1)) (lv' := [(4, .int (nI (k + 1))), (3, .int (((tbI n op inf (psb n op inf out) i k ((tbO n op inf (psb n op inf out) i (pt, out)).1, (tbO n op inf (psb n op inf out) i (pt, out)).2, inf i)).2.2) - (gps n op inf ((tbI n op inf (psb n op inf out) i k ((tbO n op inf (psb n op inf out) i (pt, out)).1, (tbO n op inf (psb n op inf out) i (pt, out)).2, inf i)).2.1) i k ((tbI n op inf (psb n op inf out) i k ((tbO n op inf (psb n op inf out) i (pt, out)).1, (tbO n op inf (psb n op inf out) i (pt, out)).2, inf i)).2.2)))), (5, .int (gps n op inf ((tbI n op inf (psb n op inf out) i k ((tbO n op inf (psb n op inf out) i (pt, out)).1, (tbO n op inf (psb n op inf out) i (pt, out)).2, inf i)).2.1) i k ((tbI n op inf (psb n op inf out) i k ((tbO n op inf (psb n op inf out) i (pt, out)).1, (tbO n op inf (psb n op inf out) i (pt, out)).2, inf i)).2.2))), (0, .ref (q 0)), (1, .int (bI (psb n op inf out))), (2, .int (nI i))]) hx hb dX0_fillPossibleTable_101 hl (k := 5) rfl (by rw [show Int32.ofInt 1 = nI 1 from by decide, nI_add]) (by decide) rfl (fun ls hl => ?_)
            refine lv_goto (tgt := 40) hx hb dX0_fillPossibleTable_104 (by decide) ?_
            have eq_18 : (tbI n op inf (psb n op inf out) i (k + 1) ((tbO n op inf (psb n op inf out) i (pt, out)).1, (tbO n op inf (psb n op inf out) i (pt, out)).2, inf i)).2.2 = ((tbI n op inf (psb n op inf out) i k ((tbO n op inf (psb n op inf out) i (pt, out)).1, (tbO n op inf (psb n op inf out) i (pt, out)).2, inf i)).2.2) - (gps n op inf ((tbI n op inf (psb n op inf out) i k ((tbO n op inf (psb n op inf out) i (pt, out)).1, (tbO n op inf (psb n op inf out) i (pt, out)).2, inf i)).2.1) i k ((tbI n op inf (psb n op inf out) i k ((tbO n op inf (psb n op inf out) i (pt, out)).1, (tbO n op inf (psb n op inf out) i (pt, out)).2, inf i)).2.2)) := by (show (tbB n op inf (psb n op inf out) i k (tbI n op inf (psb n op inf out) i k ((tbO n op inf (psb n op inf out) i (pt, out)).1, (tbO n op inf (psb n op inf out) i (pt, out)).2, inf i))).2.2 = _; unfold tbB; simp only [h81_3, reduceIte, Bool.false_eq_true])
            have eq_19 : (tbI n op inf (psb n op inf out) i (k + 1) ((tbO n op inf (psb n op inf out) i (pt, out)).1, (tbO n op inf (psb n op inf out) i (pt, out)).2, inf i)).1 = upd2 ((tbI n op inf (psb n op inf out) i k ((tbO n op inf (psb n op inf out) i (pt, out)).1, (tbO n op inf (psb n op inf out) i (pt, out)).2, inf i)).1) i k (gps n op inf ((tbI n op inf (psb n op inf out) i k ((tbO n op inf (psb n op inf out) i (pt, out)).1, (tbO n op inf (psb n op inf out) i (pt, out)).2, inf i)).2.1) i k ((tbI n op inf (psb n op inf out) i k ((tbO n op inf (psb n op inf out) i (pt, out)).1, (tbO n op inf (psb n op inf out) i (pt, out)).2, inf i)).2.2)) := by (show (tbB n op inf (psb n op inf out) i k (tbI n op inf (psb n op inf out) i k ((tbO n op inf (psb n op inf out) i (pt, out)).1, (tbO n op inf (psb n op inf out) i (pt, out)).2, inf i))).1 = _; unfold tbB; simp only [h81_3, reduceIte, Bool.false_eq_true])
            have eq_20 : (tbI n op inf (psb n op inf out) i (k + 1) ((tbO n op inf (psb n op inf out) i (pt, out)).1, (tbO n op inf (psb n op inf out) i (pt, out)).2, inf i)).2.1 = upd ((tbI n op inf (psb n op inf out) i k ((tbO n op inf (psb n op inf out) i (pt, out)).1, (tbO n op inf (psb n op inf out) i (pt, out)).2, inf i)).2.1) k ((((tbI n op inf (psb n op inf out) i k ((tbO n op inf (psb n op inf out) i (pt, out)).1, (tbO n op inf (psb n op inf out) i (pt, out)).2, inf i)).2.1) k) - (gps n op inf ((tbI n op inf (psb n op inf out) i k ((tbO n op inf (psb n op inf out) i (pt, out)).1, (tbO n op inf (psb n op inf out) i (pt, out)).2, inf i)).2.1) i k ((tbI n op inf (psb n op inf out) i k ((tbO n op inf (psb n op inf out) i (pt, out)).1, (tbO n op inf (psb n op inf out) i (pt, out)).2, inf i)).2.2))) := by (show (tbB n op inf (psb n op inf out) i k (tbI n op inf (psb n op inf out) i k ((tbO n op inf (psb n op inf out) i (pt, out)).1, (tbO n op inf (psb n op inf out) i (pt, out)).2, inf i))).2.1 = _; unfold tbB; simp only [h81_3, reduceIte, Bool.false_eq_true])
            have hl : lv_has ls 6 [(4, .int (nI (k + 1))), (3, .int ((tbI n op inf (psb n op inf out) i (k + 1) ((tbO n op inf (psb n op inf out) i (pt, out)).1, (tbO n op inf (psb n op inf out) i (pt, out)).2, inf i)).2.2)), (5, .int (gps n op inf ((tbI n op inf (psb n op inf out) i k ((tbO n op inf (psb n op inf out) i (pt, out)).1, (tbO n op inf (psb n op inf out) i (pt, out)).2, inf i)).2.1) i k ((tbI n op inf (psb n op inf out) i k ((tbO n op inf (psb n op inf out) i (pt, out)).1, (tbO n op inf (psb n op inf out) i (pt, out)).2, inf i)).2.2))), (0, .ref (q 0)), (1, .int (bI (psb n op inf out))), (2, .int (nI i))] := by first | exact hl | (rw [eq_18]; exact hl)
            exact ih (k + 1) (by omega) _ _ _ _ (by rw [eq_19]; exact g_15) (by rw [eq_20]; exact g_17) hP hS ls (lv_sub hl [3, 4, 5, 1, 0] rfl)
      exact lp40 (n - 0) 0 (by omega) _ _ _ _ hg_fp hg_fl hP hS ls (lv_sub hl [2, 3, 4, 1, 0] rfl)
  exact lp22 (n - 0) 0 (by omega) _ _ _ _ hp g_3 hP hS ls (lv_sub hl [2, 1, 0] rfl)
