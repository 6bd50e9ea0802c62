abbrev rX0_greatestPossible : Room := { frames := 3, cells := 0, slots := 0, locals := 69 }
theorem hdX0_greatestPossible : yX0_greatestPossible.cls = RX0 ∧ yX0_greatestPossible.cls ≠ "java/lang/invoke/MethodHandle" ∧ yX0_greatestPossible.cls ≠ "java/lang/invoke/VarHandle" ∧ (parseMethodDescriptor yX0_greatestPossible.desc).map (fun d => d.parameters.length) = some 3 := by decide +kernel
set_option maxHeartbeats 4000000 in
set_option maxRecDepth 100000 in
theorem c_X0_greatestPossible {l : Launch} {D : va_G} {q : Nat → Nat} {cI cD : ClassId} {rC : Int32} {fi fo fw : Nat → Int32} {fe : Nat → UInt64} {ft fr fp fl : Nat → Int32} {ff : Nat → UInt64} {n : Nat} (hn : 3 ≤ n ∧ n ≤ 6) {inf : Nat → Int32} (hI : ag1 n fi inf) {T : Nat → Nat} (hT : ∀ j : Nat, j < 6 → ft j = nI (T j) ∧ T j < 64) {ol : Nat → Int32} (hL : ag1 n fl ol) {op : Nat → Nat → Bool} (hT2 : ∀ i j : Nat, i < n → j < n → (T i).testBit j = op i j) {i k0 : Nat} {x0 : Int32} (hi : i < n) (hk0 : k0 < n) : Met l yX0_greatestPossible wsX0_greatestPossible rX0_greatestPossible (va_Pc [.ref (q 0), .int (nI i), .int (nI k0), .int x0] (wPre D (tys2 cI cD) (cW q cI cD (nI n) rC fi fo fw fe ft fr fp fl ff))) (vp_Si (fun r => r = gps n op inf ol i k0 x0)) 0 0 (fun _ => False) := by
  refine met_intro (cc := cX0_greatestPossible) (maxL := 7) (ret := (some .int)) (own := RX0) (by decide) rfl rfl (Nat.le_of_ble_eq_true rfl) ?_
  intro pp ee ss mm args below meth cd Q ls hQ S hr hlocks hv hB hl
  obtain ⟨hx, hb, hml, hown, hts⟩ := id S
  obtain ⟨hP, hK⟩ := hB
  have in_w : ∀ w ∈ wsX00, w ∈ wsX0_greatestPossible := by decide +kernel
  have fl_32 : Cond.fieldLink RX0 32 RX0 (TX0 7).2.1 (TX0 7).2.2.1 ∈ wsX0_greatestPossible := by decide +kernel
  have hl : lv_has ls 7 [(0, .ref (q 0)), (1, .int (nI i)), (2, .int (nI k0)), (3, .int x0)] := hl
  have hp6 := pow6 hn
  have hTi := (hT i (by omega)).2
  have hr6 : ∀ s, rch T s n < 64 := fun s => rch_lt (T := T) (n := n) (fun j hj => (hT j (by omega)).2) s n (Nat.le_refl n)
  have hpi : 2 ^ (i + 1) ≤ 2 ^ n := Nat.pow_le_pow_right (by omega) (by omega)
  have hpe := gp_end hi
  refine lv_aload_n hx hb dX0_greatestPossible_0 rfl (lv_at hl 0 rfl) ?_
  refine lv_iload_n hx hb dX0_greatestPossible_1 rfl (lv_at hl 1 rfl) ?_
  refine lv_iload_n hx hb dX0_greatestPossible_2 rfl (lv_at hl 2 rfl) ?_
  refine vp_callSi (W.runV (As := [.int (nI i), .int (nI k0)]) (rest := []) S (c_X0_isOpen hn hT hT2 (i := i) (k := k0) (by omega) (by omega)) (cwV 2 hts gX0_greatestPossible_X0_isOpen rfl rfl rfl hdX0_isOpen ⟨Nat.le_of_ble_eq_true rfl, Nat.le_of_ble_eq_true rfl⟩) (preV hK hP rfl rfl) rfl rfl hl.1 rfl (lv_room (Nat.le_of_ble_eq_true rfl)) dX0_greatestPossible_3 ⟨Nat.zero_le _, Nat.zero_le _⟩) (fun r_1 er_1 => ?_)
  subst er_1
  refine w_ifBne (tgt := 11) hx hb dX0_greatestPossible_6 (by decide) (fun h6_0 => ?_) (fun h6_0 => ?_)
  · refine lv_iload_n hx hb dX0_greatestPossible_11 rfl (lv_at hl 3 rfl) ?_
    refine lv_aload_n hx hb dX0_greatestPossible_12 rfl (lv_at hl 0 rfl) ?_
    refine w_getC (own := RX0) (v := .ref (q 8)) S in_w hK hP rfl 7 (by decide) fl_32 rfl rfl dX0_greatestPossible_13 ?_
    refine lv_iload_n hx hb dX0_greatestPossible_16 rfl (lv_at hl 2 rfl) ?_
    refine w_iald hx hb hK hP 8 0 rfl rfl (j := k0) (v := ol k0) (hL k0 (by omega)) (by omega) (by decide) dX0_greatestPossible_17 ?_
    refine va_mmin hx hb (hml.trans hl.1.symm) hown (hts (.methodLink RX0 192 Lib.Math.min.name) (by decide +kernel)) (hts (.static Lib.Math.min.name) (by decide +kernel)) (hts (.initialized "java/lang/Math") (by decide +kernel)) (hts (.code Lib.Math.min.name Lib.Math.min.code 2 (some .int)) (by decide +kernel)) (Nat.le_of_ble_eq_true rfl) (Nat.le_of_ble_eq_true rfl) (Nat.zero_le _) (Nat.zero_le _) dX0_greatestPossible_18 ?_
    show W _ _ _ _ _ _ _ _ _ _ _ _ _ _ _ (F0 mm 21 ls (.int (mnI x0 (ol k0)) :: _))
    refine lv_istore (lv' := [(4, .int (mnI x0 (ol k0))), (0, .ref (q 0)), (1, .int (nI i)), (2, .int (nI k0)), (3, .int x0)]) hx hb dX0_greatestPossible_21 hl (by decide) rfl (fun ls hl => ?_)
    refine lv_iconst (v := nI 2) hx hb dX0_greatestPossible_23 (by decide) ?_
    refine lv_iload_n hx hb dX0_greatestPossible_24 rfl (lv_at hl 2 rfl) ?_
    refine lv_ishl hx hb dX0_greatestPossible_25 ?_
    rw [nI_shl2 (by omega)]
    refine lv_istore (lv' := [(5, .int (nI (2 ^ (i + 1)))), (4, .int (mnI x0 (ol k0))), (0, .ref (q 0)), (1, .int (nI i)), (2, .int (nI k0)), (3, .int x0)]) hx hb dX0_greatestPossible_26 hl (by decide) rfl (fun ls hl => ?_)
    refine lv_iload hx hb dX0_greatestPossible_28 (lv_at hl 0 rfl) ?_
    refine lv_istore (lv' := [(6, .int (nI (2 ^ (i + 1)))), (5, .int (nI (2 ^ (i + 1)))), (4, .int (mnI x0 (ol k0))), (0, .ref (q 0)), (1, .int (nI i)), (2, .int (nI k0)), (3, .int x0)]) hx hb dX0_greatestPossible_30 hl (by decide) rfl (fun ls hl => ?_)
    have lp32 : ∀ (j m : Nat), m + j = 2 ^ (n - 1 - i) - 1 → ∀ ls : Array Slot, lv_has ls 7 [(0, .ref (q 0)), (1, .int (nI i)), (2, .int (nI k0)), (3, .int x0), (4, .int (gpK n op inf ol i k0 x0 m)), (5, .int (nI (2 ^ (i + 1)))), (6, .int (nI ((m + 1) * 2 ^ (i + 1))))] → W pp l ee rX0_greatestPossible ss mm args below meth cd ss.heap [] 0 0 Q (F0 mm 32 ls []) := by
      intro j
      induction j with
      | zero =>
        intro m hk_m ls hl
        have hke_m : 2 ^ (n - 1 - i) - 1 = m := by omega
        subst hke_m
        refine lv_iload hx hb dX0_greatestPossible_32 (lv_at hl 6 rfl) ?_
        refine lv_aload_n hx hb dX0_greatestPossible_34 rfl (lv_at hl 0 rfl) ?_
        refine vp_callSi (W.runV (As := []) (rest := [.int (nI ((2 ^ (n - 1 - i) - 1 + 1) * 2 ^ (i + 1)))]) S (c_X0_allArms hn) (cwV 0 hts gX0_greatestPossible_X0_allArms rfl rfl rfl hdX0_allArms ⟨Nat.le_of_ble_eq_true rfl, Nat.le_of_ble_eq_true rfl⟩) (preV hK hP rfl rfl) rfl rfl hl.1 rfl (lv_room (Nat.le_of_ble_eq_true rfl)) dX0_greatestPossible_35 ⟨Nat.zero_le _, Nat.zero_le _⟩) (fun r_2 er_2 => ?_)
        subst er_2
        refine lv_icmp_gt (tgt := 82) hx hb dX0_greatestPossible_38 (by decide) (fun h38_1 => ?_) (fun h38_1 => absurd (nI_lt (by omega) (by omega)) h38_1)
        refine lv_iload hx hb dX0_greatestPossible_82 (lv_at hl 4 rfl) ?_
        subst hQ
        exact W.iret hx hb hr (fun t ht hWm => ⟨_, rfl, (by unfold gps; rw [if_pos h6_0]), ht⟩) (fun q h => absurd h List.not_mem_nil) dX0_greatestPossible_84
      | succ j ih =>
        intro m hk_m ls hl
        have hlt_m : m < 2 ^ (n - 1 - i) - 1 := by omega
        refine lv_iload hx hb dX0_greatestPossible_32 (lv_at hl 6 rfl) ?_
        refine lv_aload_n hx hb dX0_greatestPossible_34 rfl (lv_at hl 0 rfl) ?_
        refine vp_callSi (W.runV (As := []) (rest := [.int (nI ((m + 1) * 2 ^ (i + 1)))]) S (c_X0_allArms hn) (cwV 0 hts gX0_greatestPossible_X0_allArms rfl rfl rfl hdX0_allArms ⟨Nat.le_of_ble_eq_true rfl, Nat.le_of_ble_eq_true rfl⟩) (preV hK hP rfl rfl) rfl rfl hl.1 rfl (lv_room (Nat.le_of_ble_eq_true rfl)) dX0_greatestPossible_35 ⟨Nat.zero_le _, Nat.zero_le _⟩) (fun r_3 er_3 => ?_)
        subst er_3
        refine lv_icmp_gt (tgt := 82) hx hb dX0_greatestPossible_38 (by decide) (fun h38_1 => absurd h38_1 (nI_nlt (by have := gp_lt hi hlt_m; omega) (by omega))) (fun h38_1 => ?_)
        refine lv_aload_n hx hb dX0_greatestPossible_41 rfl (lv_at hl 0 rfl) ?_
        refine lv_iload hx hb dX0_greatestPossible_42 (lv_at hl 6 rfl) ?_
        have hml_1 := gp_lt hi hlt_m
        have hr6_1 := hr6 ((m + 1) * 2 ^ (i + 1))
        refine vp_callSi (W.runV (As := [.int (nI ((m + 1) * 2 ^ (i + 1)))]) (rest := []) S (c_X0_reachedFrom hn hT (s := (m + 1) * 2 ^ (i + 1)) (by omega)) (cwV 1 hts gX0_greatestPossible_X0_reachedFrom rfl rfl rfl hdX0_reachedFrom ⟨Nat.le_of_ble_eq_true rfl, Nat.le_of_ble_eq_true rfl⟩) (preV hK hP rfl rfl) rfl rfl hl.1 rfl (lv_room (Nat.le_of_ble_eq_true rfl)) dX0_greatestPossible_44 ⟨Nat.zero_le _, Nat.zero_le _⟩) (fun r_4 er_4 => ?_)
        subst er_4
        refine lv_iload_n hx hb dX0_greatestPossible_47 rfl (lv_at hl 2 rfl) ?_
        refine vp_callSi (W.runS (As := [.int (nI (rch T ((m + 1) * 2 ^ (i + 1)) n)), .int (nI k0)]) (rest := []) S (c_X0_contains (s := rch T ((m + 1) * 2 ^ (i + 1)) n) (a := k0) (by omega) (by omega)) (va_cwS 2 hts gX0_greatestPossible_X0_contains rfl rfl rfl hdX0_contains ⟨Nat.le_of_ble_eq_true rfl, Nat.le_of_ble_eq_true rfl⟩) preS rfl rfl hl.1 rfl (lv_room (Nat.le_of_ble_eq_true rfl)) dX0_greatestPossible_48 ⟨Nat.zero_le _, Nat.zero_le _⟩) (fun r_5 er_5 => ?_)
        subst er_5
        rw [rch_bit hT2 ((m + 1) * 2 ^ (i + 1)) (b := k0) (by omega) n (Nat.le_refl n)]
        refine w_ifBeq (tgt := 72) hx hb dX0_greatestPossible_51 (by decide) (fun h51_2 => ?_) (fun h51_2 => ?_)
        · refine lv_iload hx hb dX0_greatestPossible_72 (lv_at hl 6 rfl) ?_
          refine lv_iload hx hb dX0_greatestPossible_74 (lv_at hl 5 rfl) ?_
          refine w_iadd hx hb dX0_greatestPossible_76 ?_
          rw [show (m + 1) * 2 ^ (i + 1) + 2 ^ (i + 1) = (m + 1 + 1) * 2 ^ (i + 1) from (Nat.succ_mul _ _).symm]
          refine lv_istore (lv' := [(6, .int (nI ((m + 1 + 1) * 2 ^ (i + 1)))), (0, .ref (q 0)), (1, .int (nI i)), (2, .int (nI k0)), (3, .int x0), (4, .int (gpK n op inf ol i k0 x0 m)), (5, .int (nI (2 ^ (i + 1))))]) hx hb dX0_greatestPossible_77 hl (by decide) rfl (fun ls hl => ?_)
          refine lv_goto (tgt := 32) hx hb dX0_greatestPossible_79 (by decide) ?_
          have eq_6 : gpK n op inf ol i k0 x0 (m + 1) = gpK n op inf ol i k0 x0 m := by (unfold gpK; rw [itN_succ]; simp only [h51_2, reduceIte, Bool.false_eq_true])
          have hl : lv_has ls 7 [(6, .int (nI ((m + 1 + 1) * 2 ^ (i + 1)))), (0, .ref (q 0)), (1, .int (nI i)), (2, .int (nI k0)), (3, .int x0), (4, .int (gpK n op inf ol i k0 x0 (m + 1))), (5, .int (nI (2 ^ (i + 1))))] := by first | exact hl | (rw [eq_6]; exact hl)
          exact ih (m + 1) (by omega) ls (lv_sub hl [1, 2, 3, 4, 5, 6, 0] rfl)
        · refine lv_iload hx hb dX0_greatestPossible_54 (lv_at hl 4 rfl) ?_
          refine lv_aload_n hx hb dX0_greatestPossible_56 rfl (lv_at hl 0 rfl) ?_
          refine lv_iload hx hb dX0_greatestPossible_57 (lv_at hl 6 rfl) ?_
          refine lv_aload_n hx hb dX0_greatestPossible_59 rfl (lv_at hl 0 rfl) ?_
          refine w_getC (own := RX0) (v := .ref (q 8)) S in_w hK hP rfl 7 (by decide) fl_32 rfl rfl dX0_greatestPossible_60 ?_
          refine vp_callSi (W.runV (As := [.int (nI ((m + 1) * 2 ^ (i + 1))), .ref (q 8)]) (rest := [.int (gpK n op inf ol i k0 x0 m)]) S (c_X0_excessOverL hn hI hT hL hT2 (s := (m + 1) * 2 ^ (i + 1)) (by omega)) (cwV 2 hts gX0_greatestPossible_X0_excessOver rfl rfl rfl hdX0_excessOver ⟨Nat.le_of_ble_eq_true rfl, Nat.le_of_ble_eq_true rfl⟩) (preV hK hP rfl rfl) rfl rfl hl.1 rfl (lv_room (Nat.le_of_ble_eq_true rfl)) dX0_greatestPossible_63 ⟨Nat.zero_le _, Nat.zero_le _⟩) (fun r_7 er_7 => ?_)
          subst er_7
          refine lv_ineg hx hb dX0_greatestPossible_66 ?_
          refine va_mmin hx hb (hml.trans hl.1.symm) hown (hts (.methodLink RX0 192 Lib.Math.min.name) (by decide +kernel)) (hts (.static Lib.Math.min.name) (by decide +kernel)) (hts (.initialized "java/lang/Math") (by decide +kernel)) (hts (.code Lib.Math.min.name Lib.Math.min.code 2 (some .int)) (by decide +kernel)) (Nat.le_of_ble_eq_true rfl) (Nat.le_of_ble_eq_true rfl) (Nat.zero_le _) (Nat.zero_le _) dX0_greatestPossible_67 ?_
          show W _ _ _ _ _ _ _ _ _ _ _ _ _ _ _ (F0 mm 70 ls (.int (mnI (gpK n op inf ol i k0 x0 m) (-(exc n op inf ol ((m + 1) * 2 ^ (i + 1)) n))) :: _))
          refine lv_istore (lv' := [(4, .int (mnI (gpK n op inf ol i k0 x0 m) (-(exc n op inf ol ((m + 1) * 2 ^ (i + 1)) n)))), (0, .ref (q 0)), (1, .int (nI i)), (2, .int (nI k0)), (3, .int x0), (5, .int (nI (2 ^ (i + 1)))), (6, .int (nI ((m + 1) * 2 ^ (i + 1))))]) hx hb dX0_greatestPossible_70 hl (by decide) rfl (fun ls hl => ?_)
          refine lv_iload hx hb dX0_greatestPossible_72 (lv_at hl 6 rfl) ?_
          refine lv_iload hx hb dX0_greatestPossible_74 (lv_at hl 5 rfl) ?_
          refine w_iadd hx hb dX0_greatestPossible_76 ?_
          rw [show (m + 1) * 2 ^ (i + 1) + 2 ^ (i + 1) = (m + 1 + 1) * 2 ^ (i + 1) from (Nat.succ_mul _ _).symm]
          refine lv_istore (lv' := [(6, .int (nI ((m + 1 + 1) * 2 ^ (i + 1)))), (4, .int (mnI (gpK n op inf ol i k0 x0 m) (-(exc n op inf ol ((m + 1) * 2 ^ (i + 1)) n)))), (0, .ref (q 0)), (1, .int (nI i)), (2, .int (nI k0)), (3, .int x0), (5, .int (nI (2 ^ (i + 1))))]) hx hb dX0_greatestPossible_77 hl (by decide) rfl (fun ls hl => ?_)
          refine lv_goto (tgt := 32) hx hb dX0_greatestPossible_79 (by decide) ?_
          have eq_8 : gpK n op inf ol i k0 x0 (m + 1) = mnI (gpK n op inf ol i k0 x0 m) (-(exc n op inf ol ((m + 1) * 2 ^ (i + 1)) n)) := by (unfold gpK; rw [itN_succ]; simp only [h51_2, reduceIte, Bool.false_eq_true])
          have hl : lv_has ls 7 [(6, .int (nI ((m + 1 + 1) * 2 ^ (i + 1)))), (4, .int (gpK n op inf ol i k0 x0 (m + 1))), (0, .ref (q 0)), (1, .int (nI i)), (2, .int (nI k0)), (3, .int x0), (5, .int (nI (2 ^ (i + 1))))] := by first | exact hl | (rw [eq_8]; exact hl)
          exact ih (m + 1) (by omega) ls (lv_sub hl [2, 3, 4, 5, 1, 6, 0] rfl)
    exact lp32 (2 ^ (n - 1 - i) - 1 - 0) 0 (by omega) ls (by rw [show (0 + 1) * 2 ^ (i + 1) = 2 ^ (i + 1) from by omega]; exact (lv_sub hl [3, 4, 5, 6, 2, 1, 0] rfl))
  · refine lv_iconst (v := nI 0) hx hb dX0_greatestPossible_9 (by decide) ?_
    subst hQ
    exact W.iret hx hb hr (fun t ht hWm => ⟨_, rfl, (by unfold gps; rw [if_neg (by rw [h6_0]; decide)]), ht⟩) (fun q h => absurd h List.not_mem_nil) dX0_greatestPossible_10
abbrev rX0_misfit : Room := { frames := 2, cells := 0, slots := 0, locals := 45 }
theorem hdX0_misfit : yX0_misfit.cls = RX0 ∧ yX0_misfit.cls ≠ "java/lang/invoke/MethodHandle" ∧ yX0_misfit.cls ≠ "java/lang/invoke/VarHandle" ∧ (parseMethodDescriptor yX0_misfit.desc).map (fun d => d.parameters.length) = some 0 := by decide +kernel
set_option maxHeartbeats 4000000 in
set_option maxRecDepth 100000 in
theorem c_X0_misfit {l : Launch} {D : va_G} {q : Nat → Nat} {cI cD : ClassId} {rC : Int32} {fi fo fw : Nat → Int32} {fe : Nat → UInt64} {ft fr fp fl : Nat → Int32} {ff : Nat → UInt64} {n : Nat} (hn : 3 ≤ n ∧ n ≤ 6) {inf : Nat → Int32} (hI : ag1 n fi inf) {out : Nat → Int32} (hO : ag1 n fo out) {e : Nat → Nat → UInt64} (hE : ag2 n fe e) (ho : okM n inf out e) : Met l yX0_misfit wsX0_misfit rX0_misfit (va_Pc [.ref (q 0)] (wPre D (tys2 cI cD) (cW q cI cD (nI n) rC fi fo fw fe ft fr fp fl ff))) (vp_Sd (fun r => r = misK n inf out e n)) 0 0 (fun _ => False) := by
  refine met_intro (cc := cX0_misfit) (maxL := 8) (ret := (some .double)) (own := RX0) (by decide) rfl rfl (Nat.le_of_ble_eq_true rfl) ?_
  intro pp ee ss mm args below meth cd Q ls hQ S hr hlocks hv hB hl
  obtain ⟨hx, hb, hml, hown, hts⟩ := id S
  obtain ⟨hP, hK⟩ := hB
  have in_w : ∀ w ∈ wsX00, w ∈ wsX0_misfit := by decide +kernel
  have fl_9 : Cond.fieldLink RX0 9 RX0 (TX0 0).2.1 (TX0 0).2.2.1 ∈ wsX0_misfit := by decide +kernel
  have fl_13 : Cond.fieldLink RX0 13 RX0 (TX0 1).2.1 (TX0 1).2.2.1 ∈ wsX0_misfit := by decide +kernel
  have fl_46 : Cond.fieldLink RX0 46 RX0 (TX0 9).2.1 (TX0 9).2.2.1 ∈ wsX0_misfit := by decide +kernel
  have hl : lv_has ls 8 [(0, .ref (q 0))] := hl
  refine lv_dconst0 hx hb dX0_misfit_0 ?_
  refine lv_dstore_n (lv' := [(1, .double FP.dconst0), (0, .ref (q 0))]) hx hb dX0_misfit_1 rfl hl (by decide) rfl (fun ls hl => ?_)
  refine lv_iconst (v := nI 0) hx hb dX0_misfit_2 (by decide) ?_
  refine lv_istore_n (lv' := [(3, .int (nI 0)), (1, .double FP.dconst0), (0, .ref (q 0))]) hx hb dX0_misfit_3 rfl hl (by decide) rfl (fun ls hl => ?_)
  have lp4 : ∀ (j k : Nat), k + j = n → ∀ ls : Array Slot, lv_has ls 8 [(0, .ref (q 0)), (1, .double (misK n inf out e k)), (3, .int (nI k))] → W pp l ee rX0_misfit ss mm args below meth cd ss.heap [] 0 0 Q (F0 mm 4 ls []) := by
    intro j
    induction j with
    | zero =>
      intro k hk_k ls hl
      have hke_k : n = k := by omega
      subst hke_k
      refine lv_iload_n hx hb dX0_misfit_4 rfl (lv_at hl 2 rfl) ?_
      refine lv_aload_n hx hb dX0_misfit_5 rfl (lv_at hl 0 rfl) ?_
      refine w_getC (own := RX0) (v := .int (nI n)) S in_w hK hP rfl 9 (by decide) fl_46 rfl rfl dX0_misfit_6 ?_
      refine lv_icmp_ge (tgt := 80) hx hb dX0_misfit_9 (by decide) (fun h9_0 => ?_) (fun h9_0 => absurd (Int32.le_refl _) h9_0)
      refine lv_dload_n hx hb dX0_misfit_80 rfl (lv_at hl 1 rfl) ?_
      subst hQ
      exact W.dret hx hb hr (fun t ht hWm => ⟨_, rfl, rfl, ht⟩) (fun q h => absurd h List.not_mem_nil) dX0_misfit_81
    | succ j ih =>
      intro k hk_k ls hl
      have hlt_k : k < n := by omega
      refine lv_iload_n hx hb dX0_misfit_4 rfl (lv_at hl 2 rfl) ?_
      refine lv_aload_n hx hb dX0_misfit_5 rfl (lv_at hl 0 rfl) ?_
      refine w_getC (own := RX0) (v := .int (nI n)) S in_w hK hP rfl 9 (by decide) fl_46 rfl rfl dX0_misfit_6 ?_
      refine lv_icmp_ge (tgt := 80) hx hb dX0_misfit_9 (by decide) (fun h9_0 => absurd h9_0 (nI_ge hlt_k (by omega))) (fun h9_0 => ?_)
      refine lv_aload_n hx hb dX0_misfit_12 rfl (lv_at hl 0 rfl) ?_
      refine lv_iload_n hx hb dX0_misfit_13 rfl (lv_at hl 2 rfl) ?_
      refine vp_callSd (W.runV (As := [.int (nI k)]) (rest := []) S (c_X0_rowSum hn hE (i := k) (by omega) (ho k (by omega)).1) (cwV 1 hts gX0_misfit_X0_rowSum rfl rfl rfl hdX0_rowSum ⟨Nat.le_of_ble_eq_true rfl, Nat.le_of_ble_eq_true rfl⟩) (preV hK hP rfl rfl) rfl rfl hl.1 rfl (lv_room (Nat.le_of_ble_eq_true rfl)) dX0_misfit_14 ⟨Nat.zero_le _, Nat.zero_le _⟩) (fun r_1 er_1 => ?_)
      subst er_1
      refine lv_aload_n hx hb dX0_misfit_17 rfl (lv_at hl 0 rfl) ?_
      refine w_getC (own := RX0) (v := .ref (q 1)) S in_w hK hP rfl 0 (by decide) fl_9 rfl rfl dX0_misfit_18 ?_
      refine lv_iload_n hx hb dX0_misfit_21 rfl (lv_at hl 2 rfl) ?_
      refine w_iald hx hb hK hP 1 0 rfl rfl (j := k) (v := inf k) (hI k (by omega)) (by omega) (by decide) dX0_misfit_22 ?_
      refine lv_i2d hx hb dX0_misfit_23 ?_
      refine vp_callSd (W.runS (As := [.double (rowS e n k), .double (FP.i2d (inf k))]) (rest := []) S (c_X0_distance (x := rowS e n k) (y := FP.i2d (inf k)) (ho k (by omega)).2.2.1) (va_cwS 2 hts gX0_misfit_X0_distance rfl rfl rfl hdX0_distance ⟨Nat.le_of_ble_eq_true rfl, Nat.le_of_ble_eq_true rfl⟩) preS rfl rfl hl.1 rfl (lv_room (Nat.le_of_ble_eq_true rfl)) dX0_misfit_24 ⟨Nat.zero_le _, Nat.zero_le _⟩) (fun r_2 er_2 => ?_)
      subst er_2
      refine lv_dstore (lv' := [(4, .double (dist (rowS e n k) (FP.i2d (inf k)))), (0, .ref (q 0)), (1, .double (misK n inf out e k)), (3, .int (nI k))]) hx hb dX0_misfit_27 hl (by decide) rfl (fun ls hl => ?_)
      refine lv_aload_n hx hb dX0_misfit_29 rfl (lv_at hl 1 rfl) ?_
      refine lv_iload_n hx hb dX0_misfit_30 rfl (lv_at hl 3 rfl) ?_
      refine vp_callSd (W.runV (As := [.int (nI k)]) (rest := []) S (c_X0_columnSum hn hE (i := k) (by omega) (ho k (by omega)).2.1) (cwV 1 hts gX0_misfit_X0_columnSum rfl rfl rfl hdX0_columnSum ⟨Nat.le_of_ble_eq_true rfl, Nat.le_of_ble_eq_true rfl⟩) (preV hK hP rfl rfl) rfl rfl hl.1 rfl (lv_room (Nat.le_of_ble_eq_true rfl)) dX0_misfit_31 ⟨Nat.zero_le _, Nat.zero_le _⟩) (fun r_3 er_3 => ?_)
      subst er_3
      refine lv_aload_n hx hb dX0_misfit_34 rfl (lv_at hl 1 rfl) ?_
      refine w_getC (own := RX0) (v := .ref (q 2)) S in_w hK hP rfl 1 (by decide) fl_13 rfl rfl dX0_misfit_35 ?_
      refine lv_iload_n hx hb dX0_misfit_38 rfl (lv_at hl 3 rfl) ?_
      refine w_iald hx hb hK hP 2 0 rfl rfl (j := k) (v := out k) (hO k (by omega)) (by omega) (by decide) dX0_misfit_39 ?_
      refine lv_i2d hx hb dX0_misfit_40 ?_
      refine vp_callSd (W.runS (As := [.double (colS e n k), .double (FP.i2d (out k))]) (rest := []) S (c_X0_distance (x := colS e n k) (y := FP.i2d (out k)) (ho k (by omega)).2.2.2) (va_cwS 2 hts gX0_misfit_X0_distance rfl rfl rfl hdX0_distance ⟨Nat.le_of_ble_eq_true rfl, Nat.le_of_ble_eq_true rfl⟩) preS rfl rfl hl.1 rfl (lv_room (Nat.le_of_ble_eq_true rfl)) dX0_misfit_41 ⟨Nat.zero_le _, Nat.zero_le _⟩) (fun r_4 er_4 => ?_)
      subst er_4
      refine lv_dstore (lv' := [(6, .double (dist (colS e n k) (FP.i2d (out k)))), (4, .double (dist (rowS e n k) (FP.i2d (inf k)))), (0, .ref (q 0)), (1, .double (misK n inf out e k)), (3, .int (nI k))]) hx hb dX0_misfit_44 hl (by decide) rfl (fun ls hl => ?_)
      refine lv_dload hx hb dX0_misfit_46 (lv_at hl 1 rfl) ?_
      refine lv_dload_n hx hb dX0_misfit_48 rfl (lv_at hl 3 rfl) ?_
      refine w_dgt (tgt := 58) hx hb dX0_misfit_49 dX0_misfit_50 (by decide) (fun h49_1 => ?_) (fun h49_1 => ?_)
      · refine lv_dload_n hx hb dX0_misfit_58 rfl (lv_at hl 3 rfl) ?_
        refine lv_dstore_n (lv' := [(1, .double (misK n inf out e k)), (6, .double (dist (colS e n k) (FP.i2d (out k)))), (4, .double (dist (rowS e n k) (FP.i2d (inf k)))), (0, .ref (q 0)), (3, .int (nI k))]) hx hb dX0_misfit_59 rfl hl (by decide) rfl (fun ls hl => ?_)
        refine lv_dload hx hb dX0_misfit_60 (lv_at hl 1 rfl) ?_
        refine lv_dload_n hx hb dX0_misfit_62 rfl (lv_at hl 0 rfl) ?_
        refine w_dgt (tgt := 72) hx hb dX0_misfit_63 dX0_misfit_64 (by decide) (fun h63_2 => ?_) (fun h63_2 => ?_)
        · refine lv_dload_n hx hb dX0_misfit_72 rfl (lv_at hl 0 rfl) ?_
          refine lv_dstore_n (lv' := [(1, .double (misK n inf out e k)), (6, .double (dist (colS e n k) (FP.i2d (out k)))), (4, .double (dist (rowS e n k) (FP.i2d (inf k)))), (0, .ref (q 0)), (3, .int (nI k))]) hx hb dX0_misfit_73 rfl hl (by decide) rfl (fun ls hl => ?_)
          refine lv_iinc (v := nI (k + 1)) (lv' := [(3, .int (nI (k + 1))), (1, .double (misK n inf out e k)), (6, .double (dist (colS e n k) (FP.i2d (out k)))), (4, .double (dist (rowS e n k) (FP.i2d (inf k)))), (0, .ref (q 0))]) hx hb dX0_misfit_74 hl (k := 4) rfl (by rw [show Int32.ofInt 1 = nI 1 from by decide, nI_add]) (by decide) rfl (fun ls hl => ?_)
          refine lv_goto (tgt := 4) hx hb dX0_misfit_77 (by decide) ?_
          have eq_5 : misK n inf out e (k + 1) = misK n inf out e k := by (show misB n inf out e k (misK n inf out e k) = _; unfold misB; simp only [h49_1, h63_2, reduceIte, Bool.false_eq_true])
          have hl : lv_has ls 8 [(3, .int (nI (k + 1))), (1, .double (misK n inf out e (k + 1))), (6, .double (dist (colS e n k) (FP.i2d (out k)))), (4, .double (dist (rowS e n k) (FP.i2d (inf k)))), (0, .ref (q 0))] := by first | exact hl | (rw [eq_5]; exact hl)
          exact ih (k + 1) (by omega) ls (lv_sub hl [4, 1, 0] rfl)
        · refine lv_dload hx hb dX0_misfit_67 (lv_at hl 1 rfl) ?_
          refine lv_goto (tgt := 73) hx hb dX0_misfit_69 (by decide) ?_
          refine lv_dstore_n (lv' := [(1, .double (dist (colS e n k) (FP.i2d (out k)))), (6, .double (dist (colS e n k) (FP.i2d (out k)))), (4, .double (dist (rowS e n k) (FP.i2d (inf k)))), (0, .ref (q 0)), (3, .int (nI k))]) hx hb dX0_misfit_73 rfl hl (by decide) rfl (fun ls hl => ?_)
          refine lv_iinc (v := nI (k + 1)) (lv' := [(3, .int (nI (k + 1))), (1, .double (dist (colS e n k) (FP.i2d (out k)))), (6, .double (dist (colS e n k) (FP.i2d (out k)))), (4, .double (dist (rowS e n k) (FP.i2d (inf k)))), (0, .ref (q 0))]) hx hb dX0_misfit_74 hl (k := 4) rfl (by rw [show Int32.ofInt 1 = nI 1 from by decide, nI_add]) (by decide) rfl (fun ls hl => ?_)
          refine lv_goto (tgt := 4) hx hb dX0_misfit_77 (by decide) ?_
          have eq_6 : misK n inf out e (k + 1) = dist (colS e n k) (FP.i2d (out k)) := by (show misB n inf out e k (misK n inf out e k) = _; unfold misB; simp only [h49_1, h63_2, reduceIte, Bool.false_eq_true])
          have hl : lv_has ls 8 [(3, .int (nI (k + 1))), (1, .double (misK n inf out e (k + 1))), (6, .double (dist (colS e n k) (FP.i2d (out k)))), (4, .double (dist (rowS e n k) (FP.i2d (inf k)))), (0, .ref (q 0))] := by first | exact hl | (rw [eq_6]; exact hl)
          exact ih (k + 1) (by omega) ls (lv_sub hl [4, 1, 0] rfl)
      · refine lv_dload hx hb dX0_misfit_53 (lv_at hl 1 rfl) ?_
        refine lv_goto (tgt := 59) hx hb dX0_misfit_55 (by decide) ?_
        refine lv_dstore_n (lv' := [(1, .double (dist (rowS e n k) (FP.i2d (inf k)))), (6, .double (dist (colS e n k) (FP.i2d (out k)))), (4, .double (dist (rowS e n k) (FP.i2d (inf k)))), (0, .ref (q 0)), (3, .int (nI k))]) hx hb dX0_misfit_59 rfl hl (by decide) rfl (fun ls hl => ?_)
        refine lv_dload hx hb dX0_misfit_60 (lv_at hl 1 rfl) ?_
        refine lv_dload_n hx hb dX0_misfit_62 rfl (lv_at hl 0 rfl) ?_
        refine w_dgt (tgt := 72) hx hb dX0_misfit_63 dX0_misfit_64 (by decide) (fun h63_2 => ?_) (fun h63_2 => ?_)
        · refine lv_dload_n hx hb dX0_misfit_72 rfl (lv_at hl 0 rfl) ?_
          refine lv_dstore_n (lv' := [(1, .double (dist (rowS e n k) (FP.i2d (inf k)))), (6, .double (dist (colS e n k) (FP.i2d (out k)))), (4, .double (dist (rowS e n k) (FP.i2d (inf k)))), (0, .ref (q 0)), (3, .int (nI k))]) hx hb dX0_misfit_73 rfl hl (by decide) rfl (fun ls hl => ?_)
          refine lv_iinc (v := nI (k + 1)) (lv' := [(3, .int (nI (k + 1))), (1, .double (dist (rowS e n k) (FP.i2d (inf k)))), (6, .double (dist (colS e n k) (FP.i2d (out k)))), (4, .double (dist (rowS e n k) (FP.i2d (inf k)))), (0, .ref (q 0))]) hx hb dX0_misfit_74 hl (k := 4) rfl (by rw [show Int32.ofInt 1 = nI 1 from by decide, nI_add]) (by decide) rfl (fun ls hl => ?_)
          refine lv_goto (tgt := 4) hx hb dX0_misfit_77 (by decide) ?_
          have eq_7 : misK n inf out e (k + 1) = dist (rowS e n k) (FP.i2d (inf k)) := by (show misB n inf out e k (misK n inf out e k) = _; unfold misB; simp only [h49_1, h63_2, reduceIte, Bool.false_eq_true])
          have hl : lv_has ls 8 [(3, .int (nI (k + 1))), (1, .double (misK n inf out e (k + 1))), (6, .double (dist (colS e n k) (FP.i2d (out k)))), (4, .double (dist (rowS e n k) (FP.i2d (inf k)))), (0, .ref (q 0))] := by first | exact hl | (rw [eq_7]; exact hl)
          exact ih (k + 1) (by omega) ls (lv_sub hl [4, 1, 0] rfl)
        · refine lv_dload hx hb dX0_misfit_67 (lv_at hl 1 rfl) ?_
          refine lv_goto (tgt := 73) hx hb dX0_misfit_69 (by decide) ?_
          refine lv_dstore_n (lv' := [(1, .double (dist (colS e n k) (FP.i2d (out k)))), (6, .double (dist (colS e n k) (FP.i2d (out k)))), (4, .double (dist (rowS e n k) (FP.i2d (inf k)))), (0, .ref (q 0)), (3, .int (nI k))]) hx hb dX0_misfit_73 rfl hl (by decide) rfl (fun ls hl => ?_)
          refine lv_iinc (v := nI (k + 1)) (lv' := [(3, .int (nI (k + 1))), (1, .double (dist (colS e n k) (FP.i2d (out k)))), (6, .double (dist (colS e n k) (FP.i2d (out k)))), (4, .double (dist (rowS e n k) (FP.i2d (inf k)))), (0, .ref (q 0))]) hx hb dX0_misfit_74 hl (k := 4) rfl (by rw [show Int32.ofInt 1 = nI 1 from by decide, nI_add]) (by decide) rfl (fun ls hl => ?_)
          refine lv_goto (tgt := 4) hx hb dX0_misfit_77 (by decide) ?_
          have eq_8 : misK n inf out e (k + 1) = dist (colS e n k) (FP.i2d (out k)) := by (show misB n inf out e k (misK n inf out e k) = _; unfold misB; simp only [h49_1, h63_2, reduceIte, Bool.false_eq_true])
          have hl : lv_has ls 8 [(3, .int (nI (k + 1))), (1, .double (misK n inf out e (k + 1))), (6, .double (dist (colS e n k) (FP.i2d (out k)))), (4, .double (dist (rowS e n k) (FP.i2d (inf k)))), (0, .ref (q 0))] := by first | exact hl | (rw [eq_8]; exact hl)
          exact ih (k + 1) (by omega) ls (lv_sub hl [4, 1, 0] rfl)
  exact lp4 (n - 0) 0 (by omega) ls (lv_sub hl [2, 1, 0] rfl)
abbrev rX0_busiestTurn : Room := { frames := 1, cells := 0, slots := 0, locals := 21 }
theorem hdX0_busiestTurn : yX0_busiestTurn.cls = RX0 ∧ yX0_busiestTurn.cls ≠ "java/lang/invoke/MethodHandle" ∧ yX0_busiestTurn.cls ≠ "java/lang/invoke/VarHandle" ∧ (parseMethodDescriptor yX0_busiestTurn.desc).map (fun d => d.parameters.length) = some 0 := by decide +kernel
set_option maxHeartbeats 4000000 in
set_option maxRecDepth 100000 in
theorem c_X0_busiestTurn {l : Launch} {D : va_G} {q : Nat → Nat} {cI cD : ClassId} {rC : Int32} {fi fo fw : Nat → Int32} {fe : Nat → UInt64} {ft fr fp fl : Nat → Int32} {ff : Nat → UInt64} {n : Nat} (hn : 3 ≤ n ∧ n ≤ 6) {e : Nat → Nat → UInt64} (hE : ag2 n fe e)  : Met l yX0_busiestTurn wsX0_busiestTurn rX0_busiestTurn (va_Pc [.ref (q 0)] (wPre D (tys2 cI cD) (cW q cI cD (nI n) rC fi fo fw fe ft fr fp fl ff))) (vp_Si (fun r => r = (busO e n n).1)) 0 0 (fun _ => False) := by
  refine met_intro (cc := cX0_busiestTurn) (maxL := 6) (ret := (some .int)) (own := RX0) (by decide) rfl rfl (Nat.le_of_ble_eq_true rfl) ?_
  intro pp ee ss mm args below meth cd Q ls hQ S hr hlocks hv hB hl
  obtain ⟨hx, hb, hml, hown, hts⟩ := id S
  obtain ⟨hP, hK⟩ := hB
  have in_w : ∀ w ∈ wsX00, w ∈ wsX0_busiestTurn := by decide +kernel
  have fl_19 : Cond.fieldLink RX0 19 RX0 (TX0 3).2.1 (TX0 3).2.2.1 ∈ wsX0_busiestTurn := by decide +kernel
  have fl_46 : Cond.fieldLink RX0 46 RX0 (TX0 9).2.1 (TX0 9).2.2.1 ∈ wsX0_busiestTurn := by decide +kernel
  have hl : lv_has ls 6 [(0, .ref (q 0))] := hl
  refine lv_iconst (v := -1) hx hb dX0_busiestTurn_0 (by decide) ?_
  refine lv_istore_n (lv' := [(1, .int (-1)), (0, .ref (q 0))]) hx hb dX0_busiestTurn_1 rfl hl (by decide) rfl (fun ls hl => ?_)
  refine lv_dconst0 hx hb dX0_busiestTurn_2 ?_
  refine lv_dstore_n (lv' := [(2, .double FP.dconst0), (1, .int (-1)), (0, .ref (q 0))]) hx hb dX0_busiestTurn_3 rfl hl (by decide) rfl (fun ls hl => ?_)
  refine lv_iconst (v := nI 0) hx hb dX0_busiestTurn_4 (by decide) ?_
  refine lv_istore (lv' := [(4, .int (nI 0)), (2, .double FP.dconst0), (1, .int (-1)), (0, .ref (q 0))]) hx hb dX0_busiestTurn_5 hl (by decide) rfl (fun ls hl => ?_)
  have lp7 : ∀ (j i : Nat), i + j = n → ∀ ls : Array Slot, lv_has ls 6 [(0, .ref (q 0)), (1, .int ((busO e n i).1)), (2, .double ((busO e n i).2)), (4, .int (nI i))] → W pp l ee rX0_busiestTurn ss mm args below meth cd ss.heap [] 0 0 Q (F0 mm 7 ls []) := by
    intro j
    induction j with
    | zero =>
      intro i hk_i ls hl
      have hke_i : n = i := by omega
      subst hke_i
      refine lv_iload hx hb dX0_busiestTurn_7 (lv_at hl 3 rfl) ?_
      refine lv_aload_n hx hb dX0_busiestTurn_9 rfl (lv_at hl 0 rfl) ?_
      refine w_getC (own := RX0) (v := .int (nI n)) S in_w hK hP rfl 9 (by decide) fl_46 rfl rfl dX0_busiestTurn_10 ?_
      refine lv_icmp_ge (tgt := 79) hx hb dX0_busiestTurn_13 (by decide) (fun h13_0 => ?_) (fun h13_0 => absurd (Int32.le_refl _) h13_0)
      refine lv_iload_n hx hb dX0_busiestTurn_79 rfl (lv_at hl 1 rfl) ?_
      subst hQ
      exact W.iret hx hb hr (fun t ht hWm => ⟨_, rfl, rfl, ht⟩) (fun q h => absurd h List.not_mem_nil) dX0_busiestTurn_80
    | succ j ih =>
      intro i hk_i ls hl
      have hlt_i : i < n := by omega
      refine lv_iload hx hb dX0_busiestTurn_7 (lv_at hl 3 rfl) ?_
      refine lv_aload_n hx hb dX0_busiestTurn_9 rfl (lv_at hl 0 rfl) ?_
      refine w_getC (own := RX0) (v := .int (nI n)) S in_w hK hP rfl 9 (by decide) fl_46 rfl rfl dX0_busiestTurn_10 ?_
      refine lv_icmp_ge (tgt := 79) hx hb dX0_busiestTurn_13 (by decide) (fun h13_0 => absurd h13_0 (nI_ge hlt_i (by omega))) (fun h13_0 => ?_)
      refine lv_iconst (v := nI 0) hx hb dX0_busiestTurn_16 (by decide) ?_
      refine lv_istore (lv' := [(5, .int (nI 0)), (0, .ref (q 0)), (1, .int ((busO e n i).1)), (2, .double ((busO e n i).2)), (4, .int (nI i))]) hx hb dX0_busiestTurn_17 hl (by decide) rfl (fun ls hl => ?_)
      have lp19 : ∀ (j k : Nat), k + j = n → ∀ ls : Array Slot, lv_has ls 6 [(0, .ref (q 0)), (1, .int ((busI e i k (busO e n i)).1)), (2, .double ((busI e i k (busO e n i)).2)), (4, .int (nI i)), (5, .int (nI k))] → W pp l ee rX0_busiestTurn ss mm args below meth cd ss.heap [] 0 0 Q (F0 mm 19 ls []) := by
        intro j
        induction j with
        | zero =>
          intro k hk_k ls hl
          have hke_k : n = k := by omega
          subst hke_k
          refine lv_iload hx hb dX0_busiestTurn_19 (lv_at hl 4 rfl) ?_
          refine lv_aload_n hx hb dX0_busiestTurn_21 rfl (lv_at hl 0 rfl) ?_
          refine w_getC (own := RX0) (v := .int (nI n)) S in_w hK hP rfl 9 (by decide) fl_46 rfl rfl dX0_busiestTurn_22 ?_
          refine lv_icmp_ge (tgt := 73) hx hb dX0_busiestTurn_25 (by decide) (fun h25_1 => ?_) (fun h25_1 => absurd (Int32.le_refl _) h25_1)
          refine lv_iinc (v := nI (i + 1)) (lv' := [(4, .int (nI (i + 1))), (0, .ref (q 0)), (1, .int ((busI e i n (busO e n i)).1)), (2, .double ((busI e i n (busO e n i)).2)), (5, .int (nI n))]) hx hb dX0_busiestTurn_73 hl (k := 3) rfl (by rw [show Int32.ofInt 1 = nI 1 from by decide, nI_add]) (by decide) rfl (fun ls hl => ?_)
          refine lv_goto (tgt := 7) hx hb dX0_busiestTurn_76 (by decide) ?_
          have eq_1 : (busO e n (i + 1)).1 = (busI e i n (busO e n i)).1 := by rfl
          have eq_2 : (busO e n (i + 1)).2 = (busI e i n (busO e n i)).2 := by rfl
          have hl : lv_has ls 6 [(4, .int (nI (i + 1))), (0, .ref (q 0)), (1, .int ((busO e n (i + 1)).1)), (2, .double ((busO e n (i + 1)).2)), (5, .int (nI n))] := by first | exact hl | (rw [eq_1, eq_2]; exact hl)
          exact ih (i + 1) (by omega) ls (lv_sub hl [1, 2, 3, 0] rfl)
        | succ j ih =>
          intro k hk_k ls hl
          have hlt_k : k < n := by omega
          refine lv_iload hx hb dX0_busiestTurn_19 (lv_at hl 4 rfl) ?_
          refine lv_aload_n hx hb dX0_busiestTurn_21 rfl (lv_at hl 0 rfl) ?_
          refine w_getC (own := RX0) (v := .int (nI n)) S in_w hK hP rfl 9 (by decide) fl_46 rfl rfl dX0_busiestTurn_22 ?_
          refine lv_icmp_ge (tgt := 73) hx hb dX0_busiestTurn_25 (by decide) (fun h25_1 => absurd h25_1 (nI_ge hlt_k (by omega))) (fun h25_1 => ?_)
          refine lv_aload_n hx hb dX0_busiestTurn_28 rfl (lv_at hl 0 rfl) ?_
          refine w_getC (own := RX0) (v := .ref (q 4)) S in_w hK hP rfl 3 (by decide) fl_19 rfl rfl dX0_busiestTurn_29 ?_
          refine lv_iload hx hb dX0_busiestTurn_32 (lv_at hl 3 rfl) ?_
          refine lv_iload hx hb dX0_busiestTurn_34 (lv_at hl 4 rfl) ?_
          refine vp_callSi (W.runS (As := [.int (nI i), .int (nI k)]) (rest := [.ref (q 4)]) S (c_X0_turn (i := i) (k := k)) (va_cwS 2 hts gX0_busiestTurn_X0_turn rfl rfl rfl hdX0_turn ⟨Nat.le_of_ble_eq_true rfl, Nat.le_of_ble_eq_true rfl⟩) preS rfl rfl hl.1 rfl (lv_room (Nat.le_of_ble_eq_true rfl)) dX0_busiestTurn_36 ⟨Nat.zero_le _, Nat.zero_le _⟩) (fun r_3 er_3 => ?_)
          subst er_3
          refine w_dald hx hb hK hP 4 1 rfl rfl (j := 6 * i + k) (v := e i k) (hE i k (by omega) (by omega)) (by omega) (by decide) dX0_busiestTurn_39 ?_
          refine lv_dload_n hx hb dX0_busiestTurn_40 rfl (lv_at hl 2 rfl) ?_
          refine w_dgt (tgt := 67) hx hb dX0_busiestTurn_41 dX0_busiestTurn_42 (by decide) (fun h41_2 => ?_) (fun h41_2 => ?_)
          · refine lv_iinc (v := nI (k + 1)) (lv' := [(5, .int (nI (k + 1))), (0, .ref (q 0)), (1, .int ((busI e i k (busO e n i)).1)), (2, .double ((busI e i k (busO e n i)).2)), (4, .int (nI i))]) hx hb dX0_busiestTurn_67 hl (k := 4) rfl (by rw [show Int32.ofInt 1 = nI 1 from by decide, nI_add]) (by decide) rfl (fun ls hl => ?_)
            refine lv_goto (tgt := 19) hx hb dX0_busiestTurn_70 (by decide) ?_
            have eq_4 : (busI e i (k + 1) (busO e n i)).1 = (busI e i k (busO e n i)).1 := by (unfold busI; rw [itN_succ]; unfold busI at h41_2; simp only [h41_2, reduceIte, Bool.false_eq_true])
            have eq_5 : (busI e i (k + 1) (busO e n i)).2 = (busI e i k (busO e n i)).2 := by (unfold busI; rw [itN_succ]; unfold busI at h41_2; simp only [h41_2, reduceIte, Bool.false_eq_true])
            have hl : lv_has ls 6 [(5, .int (nI (k + 1))), (0, .ref (q 0)), (1, .int ((busI e i (k + 1) (busO e n i)).1)), (2, .double ((busI e i (k + 1) (busO e n i)).2)), (4, .int (nI i))] := by first | exact hl | (rw [eq_4, eq_5]; exact hl)
            exact ih (k + 1) (by omega) ls (lv_sub hl [1, 2, 3, 4, 0] rfl)
          · refine lv_aload_n hx hb dX0_busiestTurn_45 rfl (lv_at hl 0 rfl) ?_
            refine w_getC (own := RX0) (v := .ref (q 4)) S in_w hK hP rfl 3 (by decide) fl_19 rfl rfl dX0_busiestTurn_46 ?_
            refine lv_iload hx hb dX0_busiestTurn_49 (lv_at hl 3 rfl) ?_
            refine lv_iload hx hb dX0_busiestTurn_51 (lv_at hl 4 rfl) ?_
            refine vp_callSi (W.runS (As := [.int (nI i), .int (nI k)]) (rest := [.ref (q 4)]) S (c_X0_turn (i := i) (k := k)) (va_cwS 2 hts gX0_busiestTurn_X0_turn rfl rfl rfl hdX0_turn ⟨Nat.le_of_ble_eq_true rfl, Nat.le_of_ble_eq_true rfl⟩) preS rfl rfl hl.1 rfl (lv_room (Nat.le_of_ble_eq_true rfl)) dX0_busiestTurn_53 ⟨Nat.zero_le _, Nat.zero_le _⟩) (fun r_6 er_6 => ?_)
            subst er_6
            refine w_dald hx hb hK hP 4 1 rfl rfl (j := 6 * i + k) (v := e i k) (hE i k (by omega) (by omega)) (by omega) (by decide) dX0_busiestTurn_56 ?_
            refine lv_dstore_n (lv' := [(2, .double (e i k)), (0, .ref (q 0)), (1, .int ((busI e i k (busO e n i)).1)), (4, .int (nI i)), (5, .int (nI k))]) hx hb dX0_busiestTurn_57 rfl hl (by decide) rfl (fun ls hl => ?_)
            refine lv_bipush (v := nI 10) hx hb dX0_busiestTurn_58 (by decide) ?_
            refine lv_iload hx hb dX0_busiestTurn_60 (lv_at hl 3 rfl) ?_
            refine w_imulL (N := 10) (y := 0) hx hb rfl dX0_busiestTurn_62 ?_
            refine lv_iload hx hb dX0_busiestTurn_63 (lv_at hl 4 rfl) ?_
            refine w_iadd hx hb dX0_busiestTurn_65 ?_
            refine lv_istore_n (lv' := [(1, .int (nI (10 * i + k))), (2, .double (e i k)), (0, .ref (q 0)), (4, .int (nI i)), (5, .int (nI k))]) hx hb dX0_busiestTurn_66 rfl hl (by decide) rfl (fun ls hl => ?_)
            refine lv_iinc (v := nI (k + 1)) (lv' := [(5, .int (nI (k + 1))), (1, .int (nI (10 * i + k))), (2, .double (e i k)), (0, .ref (q 0)), (4, .int (nI i))]) hx hb dX0_busiestTurn_67 hl (k := 4) rfl (by rw [show Int32.ofInt 1 = nI 1 from by decide, nI_add]) (by decide) rfl (fun ls hl => ?_)
            refine lv_goto (tgt := 19) hx hb dX0_busiestTurn_70 (by decide) ?_
            have eq_7 : (busI e i (k + 1) (busO e n i)).1 = nI (10 * i + k) := by (unfold busI; rw [itN_succ]; unfold busI at h41_2; simp only [h41_2, reduceIte, Bool.false_eq_true])
            have eq_8 : (busI e i (k + 1) (busO e n i)).2 = e i k := by (unfold busI; rw [itN_succ]; unfold busI at h41_2; simp only [h41_2, reduceIte, Bool.false_eq_true])
            have hl : lv_has ls 6 [(5, .int (nI (k + 1))), (1, .int ((busI e i (k + 1) (busO e n i)).1)), (2, .double ((busI e i (k + 1) (busO e n i)).2)), (0, .ref (q 0)), (4, .int (nI i))] := by first | exact hl | (rw [eq_7, eq_8]; exact hl)
            exact ih (k + 1) (by omega) ls (lv_sub hl [3, 1, 2, 4, 0] rfl)
      exact lp19 (n - 0) 0 (by omega) ls (lv_sub hl [1, 2, 3, 4, 0] rfl)
  exact lp7 (n - 0) 0 (by omega) ls (lv_sub hl [3, 2, 1, 0] rfl)
abbrev rX0_greatestFraction : Room := { frames := 2, cells := 0, slots := 0, locals := 43 }
theorem hdX0_greatestFraction : yX0_greatestFraction.cls = RX0 ∧ yX0_greatestFraction.cls ≠ "java/lang/invoke/MethodHandle" ∧ yX0_greatestFraction.cls ≠ "java/lang/invoke/VarHandle" ∧ (parseMethodDescriptor yX0_greatestFraction.desc).map (fun d => d.parameters.length) = some 1 := by decide +kernel
set_option maxHeartbeats 4000000 in
set_option maxRecDepth 100000 in
theorem c_X0_greatestFraction {l : Launch} {D : va_G} {q : Nat → Nat} {cI cD : ClassId} {rC : Int32} {fi fo fw : Nat → Int32} {fe : Nat → UInt64} {ft fr fp fl : Nat → Int32} {ff : Nat → UInt64} {n : Nat} (hn : 3 ≤ n ∧ n ≤ 6) {T : Nat → Nat} (hT : ∀ j : Nat, j < 6 → ft j = nI (T j) ∧ T j < 64) {fs : Nat → UInt64} (hF : ag1 n ff fs) {op : Nat → Nat → Bool} (hT2 : ∀ i j : Nat, i < n → j < n → (T i).testBit j = op i j) {i : Nat} (hi : i < n) : Met l yX0_greatestFraction wsX0_greatestFraction rX0_greatestFraction (va_Pc [.ref (q 0), .int (nI i)] (wPre D (tys2 cI cD) (cW q cI cD (nI n) rC fi fo fw fe ft fr fp fl ff))) (vp_Si (fun r => r = (grf op fs i n).1)) 0 0 (fun _ => False) := by
  refine met_intro (cc := cX0_greatestFraction) (maxL := 6) (ret := (some .int)) (own := RX0) (by decide) rfl rfl (Nat.le_of_ble_eq_true rfl) ?_
  intro pp ee ss mm args below meth cd Q ls hQ S hr hlocks hv hB hl
  obtain ⟨hx, hb, hml, hown, hts⟩ := id S
  obtain ⟨hP, hK⟩ := hB
  have in_w : ∀ w ∈ wsX00, w ∈ wsX0_greatestFraction := by decide +kernel
  have fl_35 : Cond.fieldLink RX0 35 RX0 (TX0 8).2.1 (TX0 8).2.2.1 ∈ wsX0_greatestFraction := by decide +kernel
  have fl_46 : Cond.fieldLink RX0 46 RX0 (TX0 9).2.1 (TX0 9).2.2.1 ∈ wsX0_greatestFraction := by decide +kernel
  have hl : lv_has ls 6 [(0, .ref (q 0)), (1, .int (nI i))] := hl
  refine lv_iconst (v := -1) hx hb dX0_greatestFraction_0 (by decide) ?_
  refine lv_istore_n (lv' := [(2, .int (-1)), (0, .ref (q 0)), (1, .int (nI i))]) hx hb dX0_greatestFraction_1 rfl hl (by decide) rfl (fun ls hl => ?_)
  refine lv_ldc2d (v := 13830554455654793216) hx hb hown (hts (.constantDouble RX0 209 13830554455654793216) (by decide +kernel)) dX0_greatestFraction_2 ?_
  refine lv_dstore_n (lv' := [(3, .double 13830554455654793216), (2, .int (-1)), (0, .ref (q 0)), (1, .int (nI i))]) hx hb dX0_greatestFraction_5 rfl hl (by decide) rfl (fun ls hl => ?_)
  refine lv_iconst (v := nI 0) hx hb dX0_greatestFraction_6 (by decide) ?_
  refine lv_istore (lv' := [(5, .int (nI 0)), (3, .double 13830554455654793216), (2, .int (-1)), (0, .ref (q 0)), (1, .int (nI i))]) hx hb dX0_greatestFraction_7 hl (by decide) rfl (fun ls hl => ?_)
  have lp9 : ∀ (j k : Nat), k + j = n → ∀ ls : Array Slot, lv_has ls 6 [(0, .ref (q 0)), (1, .int (nI i)), (2, .int ((grf op fs i k).1)), (3, .double ((grf op fs i k).2)), (5, .int (nI k))] → W pp l ee rX0_greatestFraction ss mm args below meth cd ss.heap [] 0 0 Q (F0 mm 9 ls []) := by
    intro j
    induction j with
    | zero =>
      intro k hk_k ls hl
      have hke_k : n = k := by omega
      subst hke_k
      refine lv_iload hx hb dX0_greatestFraction_9 (lv_at hl 4 rfl) ?_
      refine lv_aload_n hx hb dX0_greatestFraction_11 rfl (lv_at hl 0 rfl) ?_
      refine w_getC (own := RX0) (v := .int (nI n)) S in_w hK hP rfl 9 (by decide) fl_46 rfl rfl dX0_greatestFraction_12 ?_
      refine lv_icmp_ge (tgt := 57) hx hb dX0_greatestFraction_15 (by decide) (fun h15_0 => ?_) (fun h15_0 => absurd (Int32.le_refl _) h15_0)
      refine lv_iload_n hx hb dX0_greatestFraction_57 rfl (lv_at hl 2 rfl) ?_
      subst hQ
      exact W.iret hx hb hr (fun t ht hWm => ⟨_, rfl, rfl, ht⟩) (fun q h => absurd h List.not_mem_nil) dX0_greatestFraction_58
    | succ j ih =>
      intro k hk_k ls hl
      have hlt_k : k < n := by omega
      refine lv_iload hx hb dX0_greatestFraction_9 (lv_at hl 4 rfl) ?_
      refine lv_aload_n hx hb dX0_greatestFraction_11 rfl (lv_at hl 0 rfl) ?_
      refine w_getC (own := RX0) (v := .int (nI n)) S in_w hK hP rfl 9 (by decide) fl_46 rfl rfl dX0_greatestFraction_12 ?_
      refine lv_icmp_ge (tgt := 57) hx hb dX0_greatestFraction_15 (by decide) (fun h15_0 => absurd h15_0 (nI_ge hlt_k (by omega))) (fun h15_0 => ?_)
      refine lv_aload_n hx hb dX0_greatestFraction_18 rfl (lv_at hl 0 rfl) ?_
      refine lv_iload_n hx hb dX0_greatestFraction_19 rfl (lv_at hl 1 rfl) ?_
      refine lv_iload hx hb dX0_greatestFraction_20 (lv_at hl 4 rfl) ?_
      refine vp_callSi (W.runV (As := [.int (nI i), .int (nI k)]) (rest := []) S (c_X0_isOpen hn hT hT2 (i := i) (k := k) (by omega) (by omega)) (cwV 2 hts gX0_greatestFraction_X0_isOpen rfl rfl rfl hdX0_isOpen ⟨Nat.le_of_ble_eq_true rfl, Nat.le_of_ble_eq_true rfl⟩) (preV hK hP rfl rfl) rfl rfl hl.1 rfl (lv_room (Nat.le_of_ble_eq_true rfl)) dX0_greatestFraction_22 ⟨Nat.zero_le _, Nat.zero_le _⟩) (fun r_1 er_1 => ?_)
      subst er_1
      refine w_ifBeq (tgt := 51) hx hb dX0_greatestFraction_25 (by decide) (fun h25_1 => ?_) (fun h25_1 => ?_)
      · refine lv_iinc (v := nI (k + 1)) (lv' := [(5, .int (nI (k + 1))), (0, .ref (q 0)), (1, .int (nI i)), (2, .int ((grf op fs i k).1)), (3, .double ((grf op fs i k).2))]) hx hb dX0_greatestFraction_51 hl (k := 4) rfl (by rw [show Int32.ofInt 1 = nI 1 from by decide, nI_add]) (by decide) rfl (fun ls hl => ?_)
        refine lv_goto (tgt := 9) hx hb dX0_greatestFraction_54 (by decide) ?_
        have eq_2 : (grf op fs i (k + 1)).1 = (grf op fs i k).1 := by (unfold grf; rw [itN_succ]; unfold grf at h25_1; simp only [h25_1, reduceIte, Bool.false_eq_true])
        have eq_3 : (grf op fs i (k + 1)).2 = (grf op fs i k).2 := by (unfold grf; rw [itN_succ]; unfold grf at h25_1; simp only [h25_1, reduceIte, Bool.false_eq_true])
        have hl : lv_has ls 6 [(5, .int (nI (k + 1))), (0, .ref (q 0)), (1, .int (nI i)), (2, .int ((grf op fs i (k + 1)).1)), (3, .double ((grf op fs i (k + 1)).2))] := by first | exact hl | (rw [eq_2, eq_3]; exact hl)
        exact ih (k + 1) (by omega) ls (lv_sub hl [1, 2, 3, 4, 0] rfl)
      · refine lv_aload_n hx hb dX0_greatestFraction_28 rfl (lv_at hl 0 rfl) ?_
        refine w_getC (own := RX0) (v := .ref (q 9)) S in_w hK hP rfl 8 (by decide) fl_35 rfl rfl dX0_greatestFraction_29 ?_
        refine lv_iload hx hb dX0_greatestFraction_32 (lv_at hl 4 rfl) ?_
        refine w_dald hx hb hK hP 9 1 rfl rfl (j := k) (v := fs k) (hF k (by omega)) (by omega) (by decide) dX0_greatestFraction_34 ?_
        refine lv_dload_n hx hb dX0_greatestFraction_35 rfl (lv_at hl 3 rfl) ?_
        refine w_dgt (tgt := 51) hx hb dX0_greatestFraction_36 dX0_greatestFraction_37 (by decide) (fun h36_2 => ?_) (fun h36_2 => ?_)
        · refine lv_iinc (v := nI (k + 1)) (lv' := [(5, .int (nI (k + 1))), (0, .ref (q 0)), (1, .int (nI i)), (2, .int ((grf op fs i k).1)), (3, .double ((grf op fs i k).2))]) hx hb dX0_greatestFraction_51 hl (k := 4) rfl (by rw [show Int32.ofInt 1 = nI 1 from by decide, nI_add]) (by decide) rfl (fun ls hl => ?_)
          refine lv_goto (tgt := 9) hx hb dX0_greatestFraction_54 (by decide) ?_
          have eq_4 : (grf op fs i (k + 1)).1 = (grf op fs i k).1 := by (unfold grf; rw [itN_succ]; unfold grf at h25_1 h36_2; simp only [h25_1, h36_2, reduceIte, Bool.false_eq_true])
          have eq_5 : (grf op fs i (k + 1)).2 = (grf op fs i k).2 := by (unfold grf; rw [itN_succ]; unfold grf at h25_1 h36_2; simp only [h25_1, h36_2, reduceIte, Bool.false_eq_true])
          have hl : lv_has ls 6 [(5, .int (nI (k + 1))), (0, .ref (q 0)), (1, .int (nI i)), (2, .int ((grf op fs i (k + 1)).1)), (3, .double ((grf op fs i (k + 1)).2))] := by first | exact hl | (rw [eq_4, eq_5]; exact hl)
          exact ih (k + 1) (by omega) ls (lv_sub hl [1, 2, 3, 4, 0] rfl)
        · refine lv_aload_n hx hb dX0_greatestFraction_40 rfl (lv_at hl 0 rfl) ?_
          refine w_getC (own := RX0) (v := .ref (q 9)) S in_w hK hP rfl 8 (by decide) fl_35 rfl rfl dX0_greatestFraction_41 ?_
          refine lv_iload hx hb dX0_greatestFraction_44 (lv_at hl 4 rfl) ?_
          refine w_dald hx hb hK hP 9 1 rfl rfl (j := k) (v := fs k) (hF k (by omega)) (by omega) (by decide) dX0_greatestFraction_46 ?_
          refine lv_dstore_n (lv' := [(3, .double (fs k)), (0, .ref (q 0)), (1, .int (nI i)), (2, .int ((grf op fs i k).1)), (5, .int (nI k))]) hx hb dX0_greatestFraction_47 rfl hl (by decide) rfl (fun ls hl => ?_)
          refine lv_iload hx hb dX0_greatestFraction_48 (lv_at hl 4 rfl) ?_
          refine lv_istore_n (lv' := [(2, .int (nI k)), (3, .double (fs k)), (0, .ref (q 0)), (1, .int (nI i)), (5, .int (nI k))]) hx hb dX0_greatestFraction_50 rfl hl (by decide) rfl (fun ls hl => ?_)
          refine lv_iinc (v := nI (k + 1)) (lv' := [(5, .int (nI (k + 1))), (2, .int (nI k)), (3, .double (fs k)), (0, .ref (q 0)), (1, .int (nI i))]) hx hb dX0_greatestFraction_51 hl (k := 4) rfl (by rw [show Int32.ofInt 1 = nI 1 from by decide, nI_add]) (by decide) rfl (fun ls hl => ?_)
          refine lv_goto (tgt := 9) hx hb dX0_greatestFraction_54 (by decide) ?_
          have eq_6 : (grf op fs i (k + 1)).1 = nI k := by (unfold grf; rw [itN_succ]; unfold grf at h25_1 h36_2; simp only [h25_1, h36_2, reduceIte, Bool.false_eq_true])
          have eq_7 : (grf op fs i (k + 1)).2 = fs k := by (unfold grf; rw [itN_succ]; unfold grf at h25_1 h36_2; simp only [h25_1, h36_2, reduceIte, Bool.false_eq_true])
          have hl : lv_has ls 6 [(5, .int (nI (k + 1))), (2, .int ((grf op fs i (k + 1)).1)), (3, .double ((grf op fs i (k + 1)).2)), (0, .ref (q 0)), (1, .int (nI i))] := by first | exact hl | (rw [eq_6, eq_7]; exact hl)
          exact ih (k + 1) (by omega) ls (lv_sub hl [3, 4, 1, 2, 0] rfl)
  exact lp9 (n - 0) 0 (by omega) ls (lv_sub hl [3, 4, 2, 1, 0] rfl)
abbrev rX0_roundedDifference : Room := { frames := 1, cells := 0, slots := 0, locals := 40 }
theorem hdX0_roundedDifference : yX0_roundedDifference.cls = RX0 ∧ yX0_roundedDifference.cls ≠ "java/lang/invoke/MethodHandle" ∧ yX0_roundedDifference.cls ≠ "java/lang/invoke/VarHandle" ∧ (parseMethodDescriptor yX0_roundedDifference.desc).map (fun d => d.parameters.length) = some 0 := by decide +kernel
set_option maxHeartbeats 4000000 in
set_option maxRecDepth 100000 in
theorem c_X0_roundedDifference {l : Launch} {D : va_G} {q : Nat → Nat} {cI cD : ClassId} {rC : Int32} {fi fo fw : Nat → Int32} {fe : Nat → UInt64} {ft fr fp fl : Nat → Int32} {ff : Nat → UInt64} {n : Nat} (hn : 3 ≤ n ∧ n ≤ 6) {out : Nat → Int32} (hO : ag1 n fo out) {rt : Nat → Nat → Int32} (hR : ag2 n fr rt)  : Met l yX0_roundedDifference wsX0_roundedDifference rX0_roundedDifference (va_Pc [.ref (q 0)] (wPre D (tys2 cI cD) (cW q cI cD (nI n) rC fi fo fw fe ft fr fp fl ff))) (vp_Si (fun r => r = rdf n rt out n)) 0 0 (fun _ => False) := by
  refine met_intro (cc := cX0_roundedDifference) (maxL := 5) (ret := (some .int)) (own := RX0) (by decide) rfl rfl (Nat.le_of_ble_eq_true rfl) ?_
  intro pp ee ss mm args below meth cd Q ls hQ S hr hlocks hv hB hl
  obtain ⟨hx, hb, hml, hown, hts⟩ := id S
  obtain ⟨hP, hK⟩ := hB
  have in_w : ∀ w ∈ wsX00, w ∈ wsX0_roundedDifference := by decide +kernel
  have fl_13 : Cond.fieldLink RX0 13 RX0 (TX0 1).2.1 (TX0 1).2.2.1 ∈ wsX0_roundedDifference := by decide +kernel
  have fl_26 : Cond.fieldLink RX0 26 RX0 (TX0 5).2.1 (TX0 5).2.2.1 ∈ wsX0_roundedDifference := by decide +kernel
  have fl_46 : Cond.fieldLink RX0 46 RX0 (TX0 9).2.1 (TX0 9).2.2.1 ∈ wsX0_roundedDifference := by decide +kernel
  have hl : lv_has ls 5 [(0, .ref (q 0))] := hl
  refine lv_iconst (v := nI 0) hx hb dX0_roundedDifference_0 (by decide) ?_
  refine lv_istore_n (lv' := [(1, .int (nI 0)), (0, .ref (q 0))]) hx hb dX0_roundedDifference_1 rfl hl (by decide) rfl (fun ls hl => ?_)
  refine lv_iconst (v := nI 0) hx hb dX0_roundedDifference_2 (by decide) ?_
  refine lv_istore_n (lv' := [(2, .int (nI 0)), (1, .int (nI 0)), (0, .ref (q 0))]) hx hb dX0_roundedDifference_3 rfl hl (by decide) rfl (fun ls hl => ?_)
  have lp4 : ∀ (j k : Nat), k + j = n → ∀ ls : Array Slot, lv_has ls 5 [(0, .ref (q 0)), (1, .int (rdf n rt out k)), (2, .int (nI k))] → W pp l ee rX0_roundedDifference ss mm args below meth cd ss.heap [] 0 0 Q (F0 mm 4 ls []) := by
    intro j
    induction j with
    | zero =>
      intro k hk_k ls hl
      have hke_k : n = k := by omega
      subst hke_k
      refine lv_iload_n hx hb dX0_roundedDifference_4 rfl (lv_at hl 2 rfl) ?_
      refine lv_aload_n hx hb dX0_roundedDifference_5 rfl (lv_at hl 0 rfl) ?_
      refine w_getC (own := RX0) (v := .int (nI n)) S in_w hK hP rfl 9 (by decide) fl_46 rfl rfl dX0_roundedDifference_6 ?_
      refine lv_icmp_ge (tgt := 66) hx hb dX0_roundedDifference_9 (by decide) (fun h9_0 => ?_) (fun h9_0 => absurd (Int32.le_refl _) h9_0)
      refine lv_iload_n hx hb dX0_roundedDifference_66 rfl (lv_at hl 1 rfl) ?_
      subst hQ
      exact W.iret hx hb hr (fun t ht hWm => ⟨_, rfl, rfl, ht⟩) (fun q h => absurd h List.not_mem_nil) dX0_roundedDifference_67
    | succ j ih =>
      intro k hk_k ls hl
      have hlt_k : k < n := by omega
      refine lv_iload_n hx hb dX0_roundedDifference_4 rfl (lv_at hl 2 rfl) ?_
      refine lv_aload_n hx hb dX0_roundedDifference_5 rfl (lv_at hl 0 rfl) ?_
      refine w_getC (own := RX0) (v := .int (nI n)) S in_w hK hP rfl 9 (by decide) fl_46 rfl rfl dX0_roundedDifference_6 ?_
      refine lv_icmp_ge (tgt := 66) hx hb dX0_roundedDifference_9 (by decide) (fun h9_0 => absurd h9_0 (nI_ge hlt_k (by omega))) (fun h9_0 => ?_)
      refine lv_iconst (v := nI 0) hx hb dX0_roundedDifference_12 (by decide) ?_
      refine lv_istore_n (lv' := [(3, .int (nI 0)), (0, .ref (q 0)), (1, .int (rdf n rt out k)), (2, .int (nI k))]) hx hb dX0_roundedDifference_13 rfl hl (by decide) rfl (fun ls hl => ?_)
      refine lv_iconst (v := nI 0) hx hb dX0_roundedDifference_14 (by decide) ?_
      refine lv_istore (lv' := [(4, .int (nI 0)), (3, .int (nI 0)), (0, .ref (q 0)), (1, .int (rdf n rt out k)), (2, .int (nI k))]) hx hb dX0_roundedDifference_15 hl (by decide) rfl (fun ls hl => ?_)
      have lp17 : ∀ (j i : Nat), i + j = n → ∀ ls : Array Slot, lv_has ls 5 [(0, .ref (q 0)), (1, .int (rdf n rt out k)), (2, .int (nI k)), (3, .int (rcS rt k i)), (4, .int (nI i))] → W pp l ee rX0_roundedDifference ss mm args below meth cd ss.heap [] 0 0 Q (F0 mm 17 ls []) := by
        intro j
        induction j with
        | zero =>
          intro i hk_i ls hl
          have hke_i : n = i := by omega
          subst hke_i
          refine lv_iload hx hb dX0_roundedDifference_17 (lv_at hl 4 rfl) ?_
          refine lv_aload_n hx hb dX0_roundedDifference_19 rfl (lv_at hl 0 rfl) ?_
          refine w_getC (own := RX0) (v := .int (nI n)) S in_w hK hP rfl 9 (by decide) fl_46 rfl rfl dX0_roundedDifference_20 ?_
          refine lv_icmp_ge (tgt := 46) hx hb dX0_roundedDifference_23 (by decide) (fun h23_1 => ?_) (fun h23_1 => absurd (Int32.le_refl _) h23_1)
          refine lv_iload_n hx hb dX0_roundedDifference_46 rfl (lv_at hl 1 rfl) ?_
          refine lv_iload_n hx hb dX0_roundedDifference_47 rfl (lv_at hl 3 rfl) ?_
          refine lv_aload_n hx hb dX0_roundedDifference_48 rfl (lv_at hl 0 rfl) ?_
          refine w_getC (own := RX0) (v := .ref (q 2)) S in_w hK hP rfl 1 (by decide) fl_13 rfl rfl dX0_roundedDifference_49 ?_
          refine lv_iload_n hx hb dX0_roundedDifference_52 rfl (lv_at hl 2 rfl) ?_
          refine w_iald hx hb hK hP 2 0 rfl rfl (j := k) (v := out k) (hO k (by omega)) (by omega) (by decide) dX0_roundedDifference_53 ?_
          refine lv_isub hx hb dX0_roundedDifference_54 ?_
          refine va_mabs hx hb (hml.trans hl.1.symm) hown (hts (.methodLink RX0 211 Lib.Math.abs.name) (by decide +kernel)) (hts (.static Lib.Math.abs.name) (by decide +kernel)) (hts (.initialized "java/lang/Math") (by decide +kernel)) (hts (.code Lib.Math.abs.name Lib.Math.abs.code 1 (some .int)) (by decide +kernel)) (Nat.le_of_ble_eq_true rfl) (Nat.le_of_ble_eq_true rfl) (Nat.zero_le _) (Nat.zero_le _) dX0_roundedDifference_55 ?_
          show W _ _ _ _ _ _ _ _ _ _ _ _ _ _ _ (F0 mm 58 ls (.int (abI ((rcS rt k n) - (out k))) :: _))
          refine lv_iadd hx hb dX0_roundedDifference_58 ?_
          refine lv_istore_n (lv' := [(1, .int ((rdf n rt out k) + (abI ((rcS rt k n) - (out k))))), (0, .ref (q 0)), (2, .int (nI k)), (3, .int (rcS rt k n)), (4, .int (nI n))]) hx hb dX0_roundedDifference_59 rfl hl (by decide) rfl (fun ls hl => ?_)
          refine lv_iinc (v := nI (k + 1)) (lv' := [(2, .int (nI (k + 1))), (1, .int ((rdf n rt out k) + (abI ((rcS rt k n) - (out k))))), (0, .ref (q 0)), (3, .int (rcS rt k n)), (4, .int (nI n))]) hx hb dX0_roundedDifference_60 hl (k := 2) rfl (by rw [show Int32.ofInt 1 = nI 1 from by decide, nI_add]) (by decide) rfl (fun ls hl => ?_)
          refine lv_goto (tgt := 4) hx hb dX0_roundedDifference_63 (by decide) ?_
          have eq_1 : rdf n rt out (k + 1) = (rdf n rt out k) + (abI ((rcS rt k n) - (out k))) := by rfl
          have hl : lv_has ls 5 [(2, .int (nI (k + 1))), (1, .int (rdf n rt out (k + 1))), (0, .ref (q 0)), (3, .int (rcS rt k n)), (4, .int (nI n))] := by first | exact hl | (rw [eq_1]; exact hl)
          exact ih (k + 1) (by omega) ls (lv_sub hl [2, 1, 0] rfl)
        | succ j ih =>
          intro i hk_i ls hl
          have hlt_i : i < n := by omega
          refine lv_iload hx hb dX0_roundedDifference_17 (lv_at hl 4 rfl) ?_
          refine lv_aload_n hx hb dX0_roundedDifference_19 rfl (lv_at hl 0 rfl) ?_
          refine w_getC (own := RX0) (v := .int (nI n)) S in_w hK hP rfl 9 (by decide) fl_46 rfl rfl dX0_roundedDifference_20 ?_
          refine lv_icmp_ge (tgt := 46) hx hb dX0_roundedDifference_23 (by decide) (fun h23_1 => absurd h23_1 (nI_ge hlt_i (by omega))) (fun h23_1 => ?_)
          refine lv_iload_n hx hb dX0_roundedDifference_26 rfl (lv_at hl 3 rfl) ?_
          refine lv_aload_n hx hb dX0_roundedDifference_27 rfl (lv_at hl 0 rfl) ?_
          refine w_getC (own := RX0) (v := .ref (q 6)) S in_w hK hP rfl 5 (by decide) fl_26 rfl rfl dX0_roundedDifference_28 ?_
          refine lv_iload hx hb dX0_roundedDifference_31 (lv_at hl 4 rfl) ?_
          refine lv_iload_n hx hb dX0_roundedDifference_33 rfl (lv_at hl 2 rfl) ?_
          refine vp_callSi (W.runS (As := [.int (nI i), .int (nI k)]) (rest := [.ref (q 6), .int (rcS rt k i)]) S (c_X0_turn (i := i) (k := k)) (va_cwS 2 hts gX0_roundedDifference_X0_turn rfl rfl rfl hdX0_turn ⟨Nat.le_of_ble_eq_true rfl, Nat.le_of_ble_eq_true rfl⟩) preS rfl rfl hl.1 rfl (lv_room (Nat.le_of_ble_eq_true rfl)) dX0_roundedDifference_34 ⟨Nat.zero_le _, Nat.zero_le _⟩) (fun r_2 er_2 => ?_)
          subst er_2
          refine w_iald hx hb hK hP 6 0 rfl rfl (j := 6 * i + k) (v := rt i k) (hR i k (by omega) (by omega)) (by omega) (by decide) dX0_roundedDifference_37 ?_
          refine lv_iadd hx hb dX0_roundedDifference_38 ?_
          refine lv_istore_n (lv' := [(3, .int ((rcS rt k i) + (rt i k))), (0, .ref (q 0)), (1, .int (rdf n rt out k)), (2, .int (nI k)), (4, .int (nI i))]) hx hb dX0_roundedDifference_39 rfl hl (by decide) rfl (fun ls hl => ?_)
          refine lv_iinc (v := nI (i + 1)) (lv' := [(4, .int (nI (i + 1))), (3, .int ((rcS rt k i) + (rt i k))), (0, .ref (q 0)), (1, .int (rdf n rt out k)), (2, .int (nI k))]) hx hb dX0_roundedDifference_40 hl (k := 4) rfl (by rw [show Int32.ofInt 1 = nI 1 from by decide, nI_add]) (by decide) rfl (fun ls hl => ?_)
          refine lv_goto (tgt := 17) hx hb dX0_roundedDifference_43 (by decide) ?_
          have eq_3 : rcS rt k (i + 1) = (rcS rt k i) + (rt i k) := by rfl
          have hl : lv_has ls 5 [(4, .int (nI (i + 1))), (3, .int (rcS rt k (i + 1))), (0, .ref (q 0)), (1, .int (rdf n rt out k)), (2, .int (nI k))] := by first | exact hl | (rw [eq_3]; exact hl)
          exact ih (i + 1) (by omega) ls (lv_sub hl [2, 3, 4, 1, 0] rfl)
      exact lp17 (n - 0) 0 (by omega) ls (lv_sub hl [2, 3, 4, 1, 0] rfl)
  exact lp4 (n - 0) 0 (by omega) ls (lv_sub hl [2, 1, 0] rfl)
abbrev rX0_mixedTurn : Room := { frames := 1, cells := 0, slots := 0, locals := 23 }
theorem hdX0_mixedTurn : yX0_mixedTurn.cls = RX0 ∧ yX0_mixedTurn.cls ≠ "java/lang/invoke/MethodHandle" ∧ yX0_mixedTurn.cls ≠ "java/lang/invoke/VarHandle" ∧ (parseMethodDescriptor yX0_mixedTurn.desc).map (fun d => d.parameters.length) = some 2 := by decide +kernel
set_option maxHeartbeats 4000000 in
set_option maxRecDepth 100000 in
theorem c_X0_mixedTurn {l : Launch} {D : va_G} {q : Nat → Nat} {cI cD : ClassId} {rC : Int32} {fi fo fw : Nat → Int32} {fe : Nat → UInt64} {ft fr fp fl : Nat → Int32} {ff : Nat → UInt64} {n : Nat} (hn : 3 ≤ n ∧ n ≤ 6) {w : Nat → Nat → Int32} (hW : ag2 n fw w) {e : Nat → Nat → UInt64} (hE : ag2 n fe e) {rt : Nat → Nat → Int32} (hR : ag2 n fr rt) {pt : Nat → Nat → Int32} (hp : ag2 n fp pt) {h0 : Int64} {i k : Nat} (hi : i < n) (hk : k < n) (ho : vf_n64 (FP.dmul (e i k) 4652007308841189376)) : Met l yX0_mixedTurn wsX0_mixedTurn rX0_mixedTurn (va_Pc [.ref (q 0), .long h0, .int (nI (6 * i + k))] (wPre D (tys2 cI cD) (cW q cI cD (nI n) rC fi fo fw fe ft fr fp fl ff))) (vp_Sl (fun r => r = mxT h0 (w i k) (FP.d2l (FP.dmul (e i k) 4652007308841189376)) (rt i k) (pt i k))) 0 0 (fun _ => False) := by
  refine met_intro (cc := cX0_mixedTurn) (maxL := 6) (ret := (some .long)) (own := RX0) (by decide) rfl rfl (Nat.le_of_ble_eq_true rfl) ?_
  intro pp ee ss mm args below meth cd Q ls hQ S hr hlocks hv hB hl
  obtain ⟨hx, hb, hml, hown, hts⟩ := id S
  obtain ⟨hP, hK⟩ := hB
  have in_w : ∀ w ∈ wsX00, w ∈ wsX0_mixedTurn := by decide +kernel
  have fl_16 : Cond.fieldLink RX0 16 RX0 (TX0 2).2.1 (TX0 2).2.2.1 ∈ wsX0_mixedTurn := by decide +kernel
  have fl_19 : Cond.fieldLink RX0 19 RX0 (TX0 3).2.1 (TX0 3).2.2.1 ∈ wsX0_mixedTurn := by decide +kernel
  have fl_26 : Cond.fieldLink RX0 26 RX0 (TX0 5).2.1 (TX0 5).2.2.1 ∈ wsX0_mixedTurn := by decide +kernel
  have fl_29 : Cond.fieldLink RX0 29 RX0 (TX0 6).2.1 (TX0 6).2.2.1 ∈ wsX0_mixedTurn := by decide +kernel
  have hl : lv_has ls 6 [(0, .ref (q 0)), (1, .long h0), (3, .int (nI (6 * i + k)))] := hl
  refine lv_lload_n hx hb dX0_mixedTurn_0 rfl (lv_at hl 1 rfl) ?_
  refine lv_aload_n hx hb dX0_mixedTurn_1 rfl (lv_at hl 0 rfl) ?_
  refine w_getC (own := RX0) (v := .ref (q 3)) S in_w hK hP rfl 2 (by decide) fl_16 rfl rfl dX0_mixedTurn_2 ?_
  refine lv_iload_n hx hb dX0_mixedTurn_5 rfl (lv_at hl 2 rfl) ?_
  refine w_iald hx hb hK hP 3 0 rfl rfl (j := 6 * i + k) (v := w i k) (hW i k (by omega) (by omega)) (by omega) (by decide) dX0_mixedTurn_6 ?_
  refine lv_i2l hx hb dX0_mixedTurn_7 rfl ?_
  refine vp_callSl (W.runS (As := [.long h0, .long (Int32.toInt64 (w i k))]) (rest := []) S (c_X0_mixed (a := h0) (b := Int32.toInt64 (w i k))) (va_cwS 2 hts gX0_mixedTurn_X0_mixed rfl rfl rfl hdX0_mixed ⟨Nat.le_of_ble_eq_true rfl, Nat.le_of_ble_eq_true rfl⟩) preS rfl rfl hl.1 rfl (lv_room (Nat.le_of_ble_eq_true rfl)) dX0_mixedTurn_8 ⟨Nat.zero_le _, Nat.zero_le _⟩) (fun r_1 er_1 => ?_)
  subst er_1
  refine lv_lstore (lv' := [(4, .long (31 * h0 + (Int32.toInt64 (w i k)))), (0, .ref (q 0)), (1, .long h0), (3, .int (nI (6 * i + k)))]) hx hb dX0_mixedTurn_11 hl (by decide) rfl (fun ls hl => ?_)
  refine lv_lload hx hb dX0_mixedTurn_13 (lv_at hl 0 rfl) ?_
  refine lv_aload_n hx hb dX0_mixedTurn_15 rfl (lv_at hl 1 rfl) ?_
  refine w_getC (own := RX0) (v := .ref (q 4)) S in_w hK hP rfl 3 (by decide) fl_19 rfl rfl dX0_mixedTurn_16 ?_
  refine lv_iload_n hx hb dX0_mixedTurn_19 rfl (lv_at hl 3 rfl) ?_
  refine w_dald hx hb hK hP 4 1 rfl rfl (j := 6 * i + k) (v := e i k) (hE i k (by omega) (by omega)) (by omega) (by decide) dX0_mixedTurn_20 ?_
  refine vp_callSl (W.runS (As := [.double (e i k)]) (rest := [.long (31 * h0 + (Int32.toInt64 (w i k)))]) S (c_X0_thousandthsOf (x := e i k) ho) (va_cwS 1 hts gX0_mixedTurn_X0_thousandthsOf rfl rfl rfl hdX0_thousandthsOf ⟨Nat.le_of_ble_eq_true rfl, Nat.le_of_ble_eq_true rfl⟩) preS rfl rfl hl.1 rfl (lv_room (Nat.le_of_ble_eq_true rfl)) dX0_mixedTurn_21 ⟨Nat.zero_le _, Nat.zero_le _⟩) (fun r_2 er_2 => ?_)
  subst er_2
  refine vp_callSl (W.runS (As := [.long (31 * h0 + (Int32.toInt64 (w i k))), .long (FP.d2l (FP.dmul (e i k) 4652007308841189376))]) (rest := []) S (c_X0_mixed (a := 31 * h0 + (Int32.toInt64 (w i k))) (b := FP.d2l (FP.dmul (e i k) 4652007308841189376))) (va_cwS 2 hts gX0_mixedTurn_X0_mixed rfl rfl rfl hdX0_mixed ⟨Nat.le_of_ble_eq_true rfl, Nat.le_of_ble_eq_true rfl⟩) preS rfl rfl hl.1 rfl (lv_room (Nat.le_of_ble_eq_true rfl)) dX0_mixedTurn_24 ⟨Nat.zero_le _, Nat.zero_le _⟩) (fun r_3 er_3 => ?_)
  subst er_3
  refine lv_lstore (lv' := [(4, .long (31 * (31 * h0 + (Int32.toInt64 (w i k))) + (FP.d2l (FP.dmul (e i k) 4652007308841189376)))), (0, .ref (q 0)), (1, .long h0), (3, .int (nI (6 * i + k)))]) hx hb dX0_mixedTurn_27 hl (by decide) rfl (fun ls hl => ?_)
  refine lv_lload hx hb dX0_mixedTurn_29 (lv_at hl 0 rfl) ?_
  refine lv_aload_n hx hb dX0_mixedTurn_31 rfl (lv_at hl 1 rfl) ?_
  refine w_getC (own := RX0) (v := .ref (q 6)) S in_w hK hP rfl 5 (by decide) fl_26 rfl rfl dX0_mixedTurn_32 ?_
  refine lv_iload_n hx hb dX0_mixedTurn_35 rfl (lv_at hl 3 rfl) ?_
  refine w_iald hx hb hK hP 6 0 rfl rfl (j := 6 * i + k) (v := rt i k) (hR i k (by omega) (by omega)) (by omega) (by decide) dX0_mixedTurn_36 ?_
  refine lv_i2l hx hb dX0_mixedTurn_37 rfl ?_
  refine vp_callSl (W.runS (As := [.long (31 * (31 * h0 + (Int32.toInt64 (w i k))) + (FP.d2l (FP.dmul (e i k) 4652007308841189376))), .long (Int32.toInt64 (rt i k))]) (rest := []) S (c_X0_mixed (a := 31 * (31 * h0 + (Int32.toInt64 (w i k))) + (FP.d2l (FP.dmul (e i k) 4652007308841189376))) (b := Int32.toInt64 (rt i k))) (va_cwS 2 hts gX0_mixedTurn_X0_mixed rfl rfl rfl hdX0_mixed ⟨Nat.le_of_ble_eq_true rfl, Nat.le_of_ble_eq_true rfl⟩) preS rfl rfl hl.1 rfl (lv_room (Nat.le_of_ble_eq_true rfl)) dX0_mixedTurn_38 ⟨Nat.zero_le _, Nat.zero_le _⟩) (fun r_4 er_4 => ?_)
  subst er_4
  refine lv_lstore (lv' := [(4, .long (31 * (31 * (31 * h0 + (Int32.toInt64 (w i k))) + (FP.d2l (FP.dmul (e i k) 4652007308841189376))) + (Int32.toInt64 (rt i k)))), (0, .ref (q 0)), (1, .long h0), (3, .int (nI (6 * i + k)))]) hx hb dX0_mixedTurn_41 hl (by decide) rfl (fun ls hl => ?_)
  refine lv_lload hx hb dX0_mixedTurn_43 (lv_at hl 0 rfl) ?_
  refine lv_aload_n hx hb dX0_mixedTurn_45 rfl (lv_at hl 1 rfl) ?_
  refine w_getC (own := RX0) (v := .ref (q 7)) S in_w hK hP rfl 6 (by decide) fl_29 rfl rfl dX0_mixedTurn_46 ?_
  refine lv_iload_n hx hb dX0_mixedTurn_49 rfl (lv_at hl 3 rfl) ?_
  refine w_iald hx hb hK hP 7 0 rfl rfl (j := 6 * i + k) (v := pt i k) (hp i k (by omega) (by omega)) (by omega) (by decide) dX0_mixedTurn_50 ?_
  refine lv_i2l hx hb dX0_mixedTurn_51 rfl ?_
  refine vp_callSl (W.runS (As := [.long (31 * (31 * (31 * h0 + (Int32.toInt64 (w i k))) + (FP.d2l (FP.dmul (e i k) 4652007308841189376))) + (Int32.toInt64 (rt i k))), .long (Int32.toInt64 (pt i k))]) (rest := []) S (c_X0_mixed (a := 31 * (31 * (31 * h0 + (Int32.toInt64 (w i k))) + (FP.d2l (FP.dmul (e i k) 4652007308841189376))) + (Int32.toInt64 (rt i k))) (b := Int32.toInt64 (pt i k))) (va_cwS 2 hts gX0_mixedTurn_X0_mixed rfl rfl rfl hdX0_mixed ⟨Nat.le_of_ble_eq_true rfl, Nat.le_of_ble_eq_true rfl⟩) preS rfl rfl hl.1 rfl (lv_room (Nat.le_of_ble_eq_true rfl)) dX0_mixedTurn_52 ⟨Nat.zero_le _, Nat.zero_le _⟩) (fun r_5 er_5 => ?_)
  subst er_5
  subst hQ
  exact W.lret hx hb hr (fun t ht hWm => ⟨_, rfl, rfl, ht⟩) (fun q h => absurd h List.not_mem_nil) dX0_mixedTurn_55
