abbrev rX0_arms : Room := { frames := 0, cells := 0, slots := 0, locals := 0 }
theorem hdX0_arms : yX0_arms.cls = RX0 ∧ yX0_arms.cls ≠ "java/lang/invoke/MethodHandle" ∧ yX0_arms.cls ≠ "java/lang/invoke/VarHandle" ∧ (parseMethodDescriptor yX0_arms.desc).map (fun d => d.parameters.length) = some 0 := by decide +kernel
set_option maxHeartbeats 4000000 in
set_option maxRecDepth 100000 in
theorem c_X0_arms {l : Launch} {D : va_G} {q : Nat → Nat} {cI cD : ClassId} {rC : Int32} {fi fo fw : Nat → Int32} {fe : Nat → UInt64} {ft fr fp fl : Nat → Int32} {ff : Nat → UInt64} {n : Nat}  : Met l yX0_arms wsX0_arms rX0_arms (va_Pc [.ref (q 0)] (wPre D (tys2 cI cD) (cW q cI cD (nI n) rC fi fo fw fe ft fr fp fl ff))) (vp_Si (fun r => r = nI n)) 0 0 (fun _ => False) := by
  refine met_intro (cc := cX0_arms) (maxL := 1) (ret := (some .int)) (own := RX0) (by decide) rfl rfl (Nat.le_of_ble_eq_true rfl) ?_
  intro pp ee ss mm args below meth cd Q ls hQ S hr hlocks hv hB hl
  obtain ⟨hx, hb, hml, hown, hts⟩ := id S
  obtain ⟨hP, hK⟩ := hB
  have in_w : ∀ w ∈ wsX00, w ∈ wsX0_arms := by decide +kernel
  have fl_46 : Cond.fieldLink RX0 46 RX0 (TX0 9).2.1 (TX0 9).2.2.1 ∈ wsX0_arms := by decide +kernel
  have hl : lv_has ls 1 [(0, .ref (q 0))] := hl
  refine lv_aload_n hx hb dX0_arms_0 rfl (lv_at hl 0 rfl) ?_
  refine w_getC (own := RX0) (v := .int (nI n)) S in_w hK hP rfl 9 (by decide) fl_46 rfl rfl dX0_arms_1 ?_
  subst hQ
  exact W.iret hx hb hr (fun t ht hWm => ⟨_, rfl, rfl, ht⟩) (fun q h => absurd h List.not_mem_nil) dX0_arms_4
abbrev rX0_rounds : Room := { frames := 0, cells := 0, slots := 0, locals := 0 }
theorem hdX0_rounds : yX0_rounds.cls = RX0 ∧ yX0_rounds.cls ≠ "java/lang/invoke/MethodHandle" ∧ yX0_rounds.cls ≠ "java/lang/invoke/VarHandle" ∧ (parseMethodDescriptor yX0_rounds.desc).map (fun d => d.parameters.length) = some 0 := by decide +kernel
set_option maxHeartbeats 4000000 in
set_option maxRecDepth 100000 in
theorem c_X0_rounds {l : Launch} {D : va_G} {q : Nat → Nat} {cI cD : ClassId} {rC : Int32} {fi fo fw : Nat → Int32} {fe : Nat → UInt64} {ft fr fp fl : Nat → Int32} {ff : Nat → UInt64} {n : Nat}  : Met l yX0_rounds wsX0_rounds rX0_rounds (va_Pc [.ref (q 0)] (wPre D (tys2 cI cD) (cW q cI cD (nI n) rC fi fo fw fe ft fr fp fl ff))) (vp_Si (fun r => r = rC)) 0 0 (fun _ => False) := by
  refine met_intro (cc := cX0_rounds) (maxL := 1) (ret := (some .int)) (own := RX0) (by decide) rfl rfl (Nat.le_of_ble_eq_true rfl) ?_
  intro pp ee ss mm args below meth cd Q ls hQ S hr hlocks hv hB hl
  obtain ⟨hx, hb, hml, hown, hts⟩ := id S
  obtain ⟨hP, hK⟩ := hB
  have in_w : ∀ w ∈ wsX00, w ∈ wsX0_rounds := by decide +kernel
  have fl_95 : Cond.fieldLink RX0 95 RX0 (TX0 10).2.1 (TX0 10).2.2.1 ∈ wsX0_rounds := by decide +kernel
  have hl : lv_has ls 1 [(0, .ref (q 0))] := hl
  refine lv_aload_n hx hb dX0_rounds_0 rfl (lv_at hl 0 rfl) ?_
  refine w_getC (own := RX0) (v := .int rC) S in_w hK hP rfl 10 (by decide) fl_95 rfl rfl dX0_rounds_1 ?_
  subst hQ
  exact W.iret hx hb hr (fun t ht hWm => ⟨_, rfl, rfl, ht⟩) (fun q h => absurd h List.not_mem_nil) dX0_rounds_4
abbrev rX0_allArms : Room := { frames := 0, cells := 0, slots := 0, locals := 0 }
theorem hdX0_allArms : yX0_allArms.cls = RX0 ∧ yX0_allArms.cls ≠ "java/lang/invoke/MethodHandle" ∧ yX0_allArms.cls ≠ "java/lang/invoke/VarHandle" ∧ (parseMethodDescriptor yX0_allArms.desc).map (fun d => d.parameters.length) = some 0 := by decide +kernel
set_option maxHeartbeats 4000000 in
set_option maxRecDepth 100000 in
theorem c_X0_allArms {l : Launch} {D : va_G} {q : Nat → Nat} {cI cD : ClassId} {rC : Int32} {fi fo fw : Nat → Int32} {fe : Nat → UInt64} {ft fr fp fl : Nat → Int32} {ff : Nat → UInt64} {n : Nat} (hn : 3 ≤ n ∧ n ≤ 6)  : Met l yX0_allArms wsX0_allArms rX0_allArms (va_Pc [.ref (q 0)] (wPre D (tys2 cI cD) (cW q cI cD (nI n) rC fi fo fw fe ft fr fp fl ff))) (vp_Si (fun r => r = nI (2 ^ n - 1))) 0 0 (fun _ => False) := by
  refine met_intro (cc := cX0_allArms) (maxL := 1) (ret := (some .int)) (own := RX0) (by decide) rfl rfl (Nat.le_of_ble_eq_true rfl) ?_
  intro pp ee ss mm args below meth cd Q ls hQ S hr hlocks hv hB hl
  obtain ⟨hx, hb, hml, hown, hts⟩ := id S
  obtain ⟨hP, hK⟩ := hB
  have in_w : ∀ w ∈ wsX00, w ∈ wsX0_allArms := by decide +kernel
  have fl_46 : Cond.fieldLink RX0 46 RX0 (TX0 9).2.1 (TX0 9).2.2.1 ∈ wsX0_allArms := by decide +kernel
  have hl : lv_has ls 1 [(0, .ref (q 0))] := hl
  refine lv_iconst (v := nI 1) hx hb dX0_allArms_0 (by decide) ?_
  refine lv_aload_n hx hb dX0_allArms_1 rfl (lv_at hl 0 rfl) ?_
  refine w_getC (own := RX0) (v := .int (nI n)) S in_w hK hP rfl 9 (by decide) fl_46 rfl rfl dX0_allArms_2 ?_
  refine lv_ishl hx hb dX0_allArms_5 ?_
  refine lv_iconst (v := nI 1) hx hb dX0_allArms_6 (by decide) ?_
  refine lv_isub hx hb dX0_allArms_7 ?_
  rw [allA hn]
  subst hQ
  exact W.iret hx hb hr (fun t ht hWm => ⟨_, rfl, rfl, ht⟩) (fun q h => absurd h List.not_mem_nil) dX0_allArms_8
abbrev rX0_total : Room := { frames := 0, cells := 0, slots := 0, locals := 0 }
theorem hdX0_total : yX0_total.cls = RX0 ∧ yX0_total.cls ≠ "java/lang/invoke/MethodHandle" ∧ yX0_total.cls ≠ "java/lang/invoke/VarHandle" ∧ (parseMethodDescriptor yX0_total.desc).map (fun d => d.parameters.length) = some 1 := by decide +kernel
set_option maxHeartbeats 4000000 in
set_option maxRecDepth 100000 in
theorem c_X0_totalI {l : Launch} {D : va_G} {q : Nat → Nat} {cI cD : ClassId} {rC : Int32} {fi fo fw : Nat → Int32} {fe : Nat → UInt64} {ft fr fp fl : Nat → Int32} {ff : Nat → UInt64} {n : Nat} (hn : 3 ≤ n ∧ n ≤ 6) {inf : Nat → Int32} (hI : ag1 n fi inf)  : Met l yX0_total wsX0_total rX0_total (va_Pc [.ref (q 0), .ref (q 1)] (wPre D (tys2 cI cD) (cW q cI cD (nI n) rC fi fo fw fe ft fr fp fl ff))) (vp_Si (fun r => r = sumI inf n)) 0 0 (fun _ => False) := by
  refine met_intro (cc := cX0_total) (maxL := 4) (ret := (some .int)) (own := RX0) (by decide) rfl rfl (Nat.le_of_ble_eq_true rfl) ?_
  intro pp ee ss mm args below meth cd Q ls hQ S hr hlocks hv hB hl
  obtain ⟨hx, hb, hml, hown, hts⟩ := id S
  obtain ⟨hP, hK⟩ := hB
  have in_w : ∀ w ∈ wsX00, w ∈ wsX0_total := by decide +kernel
  have fl_46 : Cond.fieldLink RX0 46 RX0 (TX0 9).2.1 (TX0 9).2.2.1 ∈ wsX0_total := by decide +kernel
  have hl : lv_has ls 4 [(0, .ref (q 0)), (1, .ref (q 1))] := hl
  refine lv_iconst (v := nI 0) hx hb dX0_total_0 (by decide) ?_
  refine lv_istore_n (lv' := [(2, .int (nI 0)), (0, .ref (q 0)), (1, .ref (q 1))]) hx hb dX0_total_1 rfl hl (by decide) rfl (fun ls hl => ?_)
  refine lv_iconst (v := nI 0) hx hb dX0_total_2 (by decide) ?_
  refine lv_istore_n (lv' := [(3, .int (nI 0)), (2, .int (nI 0)), (0, .ref (q 0)), (1, .ref (q 1))]) hx hb dX0_total_3 rfl hl (by decide) rfl (fun ls hl => ?_)
  have lp4 : ∀ (j k : Nat), k + j = n → ∀ ls : Array Slot, lv_has ls 4 [(0, .ref (q 0)), (1, .ref (q 1)), (2, .int (sumI inf k)), (3, .int (nI k))] → W pp l ee rX0_total ss mm args below meth cd ss.heap [] 0 0 Q (F0 mm 4 ls []) := by
    intro j
    induction j with
    | zero =>
      intro k hk_k ls hl
      have hke_k : n = k := by omega
      subst hke_k
      refine lv_iload_n hx hb dX0_total_4 rfl (lv_at hl 3 rfl) ?_
      refine lv_aload_n hx hb dX0_total_5 rfl (lv_at hl 0 rfl) ?_
      refine w_getC (own := RX0) (v := .int (nI n)) S in_w hK hP rfl 9 (by decide) fl_46 rfl rfl dX0_total_6 ?_
      refine lv_icmp_ge (tgt := 24) hx hb dX0_total_9 (by decide) (fun h9_0 => ?_) (fun h9_0 => absurd (Int32.le_refl _) h9_0)
      refine lv_iload_n hx hb dX0_total_24 rfl (lv_at hl 2 rfl) ?_
      subst hQ
      exact W.iret hx hb hr (fun t ht hWm => ⟨_, rfl, rfl, ht⟩) (fun q h => absurd h List.not_mem_nil) dX0_total_25
    | succ j ih =>
      intro k hk_k ls hl
      have hlt_k : k < n := by omega
      refine lv_iload_n hx hb dX0_total_4 rfl (lv_at hl 3 rfl) ?_
      refine lv_aload_n hx hb dX0_total_5 rfl (lv_at hl 0 rfl) ?_
      refine w_getC (own := RX0) (v := .int (nI n)) S in_w hK hP rfl 9 (by decide) fl_46 rfl rfl dX0_total_6 ?_
      refine lv_icmp_ge (tgt := 24) hx hb dX0_total_9 (by decide) (fun h9_0 => absurd h9_0 (nI_ge hlt_k (by omega))) (fun h9_0 => ?_)
      refine lv_iload_n hx hb dX0_total_12 rfl (lv_at hl 2 rfl) ?_
      refine lv_aload_n hx hb dX0_total_13 rfl (lv_at hl 1 rfl) ?_
      refine lv_iload_n hx hb dX0_total_14 rfl (lv_at hl 3 rfl) ?_
      refine w_iald hx hb hK hP 1 0 rfl rfl (j := k) (v := inf k) (hI k (by omega)) (by omega) (by decide) dX0_total_15 ?_
      refine lv_iadd hx hb dX0_total_16 ?_
      refine lv_istore_n (lv' := [(2, .int ((sumI inf k) + (inf k))), (0, .ref (q 0)), (1, .ref (q 1)), (3, .int (nI k))]) hx hb dX0_total_17 rfl hl (by decide) rfl (fun ls hl => ?_)
      refine lv_iinc (v := nI (k + 1)) (lv' := [(3, .int (nI (k + 1))), (2, .int ((sumI inf k) + (inf k))), (0, .ref (q 0)), (1, .ref (q 1))]) hx hb dX0_total_18 hl (k := 3) rfl (by rw [show Int32.ofInt 1 = nI 1 from by decide, nI_add]) (by decide) rfl (fun ls hl => ?_)
      refine lv_goto (tgt := 4) hx hb dX0_total_21 (by decide) ?_
      have eq_1 : sumI inf (k + 1) = (sumI inf k) + (inf k) := by rfl
      have hl : lv_has ls 4 [(3, .int (nI (k + 1))), (2, .int (sumI inf (k + 1))), (0, .ref (q 0)), (1, .ref (q 1))] := by first | exact hl | (rw [eq_1]; exact hl)
      exact ih (k + 1) (by omega) ls (lv_sub hl [2, 3, 1, 0] rfl)
  exact lp4 (n - 0) 0 (by omega) ls (lv_sub hl [2, 3, 1, 0] rfl)
set_option maxHeartbeats 4000000 in
set_option maxRecDepth 100000 in
theorem c_X0_totalO {l : Launch} {D : va_G} {q : Nat → Nat} {cI cD : ClassId} {rC : Int32} {fi fo fw : Nat → Int32} {fe : Nat → UInt64} {ft fr fp fl : Nat → Int32} {ff : Nat → UInt64} {n : Nat} (hn : 3 ≤ n ∧ n ≤ 6) {out : Nat → Int32} (hO : ag1 n fo out)  : Met l yX0_total wsX0_total rX0_total (va_Pc [.ref (q 0), .ref (q 2)] (wPre D (tys2 cI cD) (cW q cI cD (nI n) rC fi fo fw fe ft fr fp fl ff))) (vp_Si (fun r => r = sumI out n)) 0 0 (fun _ => False) := by
  refine met_intro (cc := cX0_total) (maxL := 4) (ret := (some .int)) (own := RX0) (by decide) rfl rfl (Nat.le_of_ble_eq_true rfl) ?_
  intro pp ee ss mm args below meth cd Q ls hQ S hr hlocks hv hB hl
  obtain ⟨hx, hb, hml, hown, hts⟩ := id S
  obtain ⟨hP, hK⟩ := hB
  have in_w : ∀ w ∈ wsX00, w ∈ wsX0_total := by decide +kernel
  have fl_46 : Cond.fieldLink RX0 46 RX0 (TX0 9).2.1 (TX0 9).2.2.1 ∈ wsX0_total := by decide +kernel
  have hl : lv_has ls 4 [(0, .ref (q 0)), (1, .ref (q 2))] := hl
  refine lv_iconst (v := nI 0) hx hb dX0_total_0 (by decide) ?_
  refine lv_istore_n (lv' := [(2, .int (nI 0)), (0, .ref (q 0)), (1, .ref (q 2))]) hx hb dX0_total_1 rfl hl (by decide) rfl (fun ls hl => ?_)
  refine lv_iconst (v := nI 0) hx hb dX0_total_2 (by decide) ?_
  refine lv_istore_n (lv' := [(3, .int (nI 0)), (2, .int (nI 0)), (0, .ref (q 0)), (1, .ref (q 2))]) hx hb dX0_total_3 rfl hl (by decide) rfl (fun ls hl => ?_)
  have lp4 : ∀ (j k : Nat), k + j = n → ∀ ls : Array Slot, lv_has ls 4 [(0, .ref (q 0)), (1, .ref (q 2)), (2, .int (sumI out k)), (3, .int (nI k))] → W pp l ee rX0_total ss mm args below meth cd ss.heap [] 0 0 Q (F0 mm 4 ls []) := by
    intro j
    induction j with
    | zero =>
      intro k hk_k ls hl
      have hke_k : n = k := by omega
      subst hke_k
      refine lv_iload_n hx hb dX0_total_4 rfl (lv_at hl 3 rfl) ?_
      refine lv_aload_n hx hb dX0_total_5 rfl (lv_at hl 0 rfl) ?_
      refine w_getC (own := RX0) (v := .int (nI n)) S in_w hK hP rfl 9 (by decide) fl_46 rfl rfl dX0_total_6 ?_
      refine lv_icmp_ge (tgt := 24) hx hb dX0_total_9 (by decide) (fun h9_0 => ?_) (fun h9_0 => absurd (Int32.le_refl _) h9_0)
      refine lv_iload_n hx hb dX0_total_24 rfl (lv_at hl 2 rfl) ?_
      subst hQ
      exact W.iret hx hb hr (fun t ht hWm => ⟨_, rfl, rfl, ht⟩) (fun q h => absurd h List.not_mem_nil) dX0_total_25
    | succ j ih =>
      intro k hk_k ls hl
      have hlt_k : k < n := by omega
      refine lv_iload_n hx hb dX0_total_4 rfl (lv_at hl 3 rfl) ?_
      refine lv_aload_n hx hb dX0_total_5 rfl (lv_at hl 0 rfl) ?_
      refine w_getC (own := RX0) (v := .int (nI n)) S in_w hK hP rfl 9 (by decide) fl_46 rfl rfl dX0_total_6 ?_
      refine lv_icmp_ge (tgt := 24) hx hb dX0_total_9 (by decide) (fun h9_0 => absurd h9_0 (nI_ge hlt_k (by omega))) (fun h9_0 => ?_)
      refine lv_iload_n hx hb dX0_total_12 rfl (lv_at hl 2 rfl) ?_
      refine lv_aload_n hx hb dX0_total_13 rfl (lv_at hl 1 rfl) ?_
      refine lv_iload_n hx hb dX0_total_14 rfl (lv_at hl 3 rfl) ?_
      refine w_iald hx hb hK hP 2 0 rfl rfl (j := k) (v := out k) (hO k (by omega)) (by omega) (by decide) dX0_total_15 ?_
      refine lv_iadd hx hb dX0_total_16 ?_
      refine lv_istore_n (lv' := [(2, .int ((sumI out k) + (out k))), (0, .ref (q 0)), (1, .ref (q 2)), (3, .int (nI k))]) hx hb dX0_total_17 rfl hl (by decide) rfl (fun ls hl => ?_)
      refine lv_iinc (v := nI (k + 1)) (lv' := [(3, .int (nI (k + 1))), (2, .int ((sumI out k) + (out k))), (0, .ref (q 0)), (1, .ref (q 2))]) hx hb dX0_total_18 hl (k := 3) rfl (by rw [show Int32.ofInt 1 = nI 1 from by decide, nI_add]) (by decide) rfl (fun ls hl => ?_)
      refine lv_goto (tgt := 4) hx hb dX0_total_21 (by decide) ?_
      have eq_1 : sumI out (k + 1) = (sumI out k) + (out k) := by rfl
      have hl : lv_has ls 4 [(3, .int (nI (k + 1))), (2, .int (sumI out (k + 1))), (0, .ref (q 0)), (1, .ref (q 2))] := by first | exact hl | (rw [eq_1]; exact hl)
      exact ih (k + 1) (by omega) ls (lv_sub hl [2, 3, 1, 0] rfl)
  exact lp4 (n - 0) 0 (by omega) ls (lv_sub hl [2, 3, 1, 0] rfl)
abbrev rX0_imbalance : Room := { frames := 1, cells := 0, slots := 0, locals := 23 }
theorem hdX0_imbalance : yX0_imbalance.cls = RX0 ∧ yX0_imbalance.cls ≠ "java/lang/invoke/MethodHandle" ∧ yX0_imbalance.cls ≠ "java/lang/invoke/VarHandle" ∧ (parseMethodDescriptor yX0_imbalance.desc).map (fun d => d.parameters.length) = some 0 := by decide +kernel
set_option maxHeartbeats 4000000 in
set_option maxRecDepth 100000 in
theorem c_X0_imbalance {l : Launch} {D : va_G} {q : Nat → Nat} {cI cD : ClassId} {rC : Int32} {fi fo fw : Nat → Int32} {fe : Nat → UInt64} {ft fr fp fl : Nat → Int32} {ff : Nat → UInt64} {n : Nat} (hn : 3 ≤ n ∧ n ≤ 6) {inf : Nat → Int32} (hI : ag1 n fi inf) {out : Nat → Int32} (hO : ag1 n fo out)  : Met l yX0_imbalance wsX0_imbalance rX0_imbalance (va_Pc [.ref (q 0)] (wPre D (tys2 cI cD) (cW q cI cD (nI n) rC fi fo fw fe ft fr fp fl ff))) (vp_Si (fun r => r = dif n inf out)) 0 0 (fun _ => False) := by
  refine met_intro (cc := cX0_imbalance) (maxL := 1) (ret := (some .int)) (own := RX0) (by decide) rfl rfl (Nat.le_of_ble_eq_true rfl) ?_
  intro pp ee ss mm args below meth cd Q ls hQ S hr hlocks hv hB hl
  obtain ⟨hx, hb, hml, hown, hts⟩ := id S
  obtain ⟨hP, hK⟩ := hB
  have in_w : ∀ w ∈ wsX00, w ∈ wsX0_imbalance := by decide +kernel
  have fl_9 : Cond.fieldLink RX0 9 RX0 (TX0 0).2.1 (TX0 0).2.2.1 ∈ wsX0_imbalance := by decide +kernel
  have fl_13 : Cond.fieldLink RX0 13 RX0 (TX0 1).2.1 (TX0 1).2.2.1 ∈ wsX0_imbalance := by decide +kernel
  have hl : lv_has ls 1 [(0, .ref (q 0))] := hl
  refine lv_aload_n hx hb dX0_imbalance_0 rfl (lv_at hl 0 rfl) ?_
  refine lv_aload_n hx hb dX0_imbalance_1 rfl (lv_at hl 0 rfl) ?_
  refine w_getC (own := RX0) (v := .ref (q 1)) S in_w hK hP rfl 0 (by decide) fl_9 rfl rfl dX0_imbalance_2 ?_
  refine vp_callSi (W.runV (As := [.ref (q 1)]) (rest := []) S (c_X0_totalI hn hI) (cwV 1 hts gX0_imbalance_X0_total rfl rfl rfl hdX0_total ⟨Nat.le_of_ble_eq_true rfl, Nat.le_of_ble_eq_true rfl⟩) (preV hK hP rfl rfl) rfl rfl hl.1 rfl (lv_room (Nat.le_of_ble_eq_true rfl)) dX0_imbalance_5 ⟨Nat.zero_le _, Nat.zero_le _⟩) (fun r_1 er_1 => ?_)
  subst er_1
  refine lv_aload_n hx hb dX0_imbalance_8 rfl (lv_at hl 0 rfl) ?_
  refine lv_aload_n hx hb dX0_imbalance_9 rfl (lv_at hl 0 rfl) ?_
  refine w_getC (own := RX0) (v := .ref (q 2)) S in_w hK hP rfl 1 (by decide) fl_13 rfl rfl dX0_imbalance_10 ?_
  refine vp_callSi (W.runV (As := [.ref (q 2)]) (rest := [.int (sumI inf n)]) S (c_X0_totalO hn hO) (cwV 1 hts gX0_imbalance_X0_total rfl rfl rfl hdX0_total ⟨Nat.le_of_ble_eq_true rfl, Nat.le_of_ble_eq_true rfl⟩) (preV hK hP rfl rfl) rfl rfl hl.1 rfl (lv_room (Nat.le_of_ble_eq_true rfl)) dX0_imbalance_13 ⟨Nat.zero_le _, Nat.zero_le _⟩) (fun r_2 er_2 => ?_)
  subst er_2
  refine lv_isub hx hb dX0_imbalance_16 ?_
  subst hQ
  exact W.iret hx hb hr (fun t ht hWm => ⟨_, rfl, rfl, ht⟩) (fun q h => absurd h List.not_mem_nil) dX0_imbalance_17
abbrev rX0_isOpen : Room := { frames := 1, cells := 0, slots := 0, locals := 21 }
theorem hdX0_isOpen : yX0_isOpen.cls = RX0 ∧ yX0_isOpen.cls ≠ "java/lang/invoke/MethodHandle" ∧ yX0_isOpen.cls ≠ "java/lang/invoke/VarHandle" ∧ (parseMethodDescriptor yX0_isOpen.desc).map (fun d => d.parameters.length) = some 2 := by decide +kernel
set_option maxHeartbeats 4000000 in
set_option maxRecDepth 100000 in
theorem c_X0_isOpen {l : Launch} {D : va_G} {q : Nat → Nat} {cI cD : ClassId} {rC : Int32} {fi fo fw : Nat → Int32} {fe : Nat → UInt64} {ft fr fp fl : Nat → Int32} {ff : Nat → UInt64} {n : Nat} (hn : 3 ≤ n ∧ n ≤ 6) {T : Nat → Nat} (hT : ∀ j : Nat, j < 6 → ft j = nI (T j) ∧ T j < 64) {op : Nat → Nat → Bool} (hT2 : ∀ i j : Nat, i < n → j < n → (T i).testBit j = op i j) {i k : Nat} (hi : i < n) (hk : k < n) : Met l yX0_isOpen wsX0_isOpen rX0_isOpen (va_Pc [.ref (q 0), .int (nI i), .int (nI k)] (wPre D (tys2 cI cD) (cW q cI cD (nI n) rC fi fo fw fe ft fr fp fl ff))) (vp_Si (fun r => r = bI (op i k))) 0 0 (fun _ => False) := by
  refine met_intro (cc := cX0_isOpen) (maxL := 3) (ret := (some .boolean)) (own := RX0) (by decide) rfl rfl (Nat.le_of_ble_eq_true rfl) ?_
  intro pp ee ss mm args below meth cd Q ls hQ S hr hlocks hv hB hl
  obtain ⟨hx, hb, hml, hown, hts⟩ := id S
  obtain ⟨hP, hK⟩ := hB
  have in_w : ∀ w ∈ wsX00, w ∈ wsX0_isOpen := by decide +kernel
  have fl_23 : Cond.fieldLink RX0 23 RX0 (TX0 4).2.1 (TX0 4).2.2.1 ∈ wsX0_isOpen := by decide +kernel
  have hl : lv_has ls 3 [(0, .ref (q 0)), (1, .int (nI i)), (2, .int (nI k))] := hl
  have hTi := (hT i (by omega)).2
  refine lv_aload_n hx hb dX0_isOpen_0 rfl (lv_at hl 0 rfl) ?_
  refine w_getC (own := RX0) (v := .ref (q 5)) S in_w hK hP rfl 4 (by decide) fl_23 rfl rfl dX0_isOpen_1 ?_
  refine lv_iload_n hx hb dX0_isOpen_4 rfl (lv_at hl 1 rfl) ?_
  refine w_iald hx hb hK hP 5 0 rfl rfl (j := i) (v := nI (T i)) (hT i (by omega)).1 (by omega) (by decide) dX0_isOpen_5 ?_
  refine lv_iload_n hx hb dX0_isOpen_6 rfl (lv_at hl 2 rfl) ?_
  refine vp_callSi (W.runS (As := [.int (nI (T i)), .int (nI k)]) (rest := []) S (c_X0_contains (s := T i) (a := k) (by omega) (by omega)) (va_cwS 2 hts gX0_isOpen_X0_contains rfl rfl rfl hdX0_contains ⟨Nat.le_of_ble_eq_true rfl, Nat.le_of_ble_eq_true rfl⟩) preS rfl rfl hl.1 rfl (lv_room (Nat.le_of_ble_eq_true rfl)) dX0_isOpen_7 ⟨Nat.zero_le _, Nat.zero_le _⟩) (fun r_1 er_1 => ?_)
  subst er_1
  subst hQ
  exact W.zret hx hb hr (nar_b _) (fun t ht hWm => ⟨_, rfl, (by rw [hT2 i k hi hk]), ht⟩) (fun q h => absurd h List.not_mem_nil) dX0_isOpen_10
abbrev rX0_reachedFrom : Room := { frames := 1, cells := 0, slots := 0, locals := 21 }
theorem hdX0_reachedFrom : yX0_reachedFrom.cls = RX0 ∧ yX0_reachedFrom.cls ≠ "java/lang/invoke/MethodHandle" ∧ yX0_reachedFrom.cls ≠ "java/lang/invoke/VarHandle" ∧ (parseMethodDescriptor yX0_reachedFrom.desc).map (fun d => d.parameters.length) = some 1 := by decide +kernel
set_option maxHeartbeats 4000000 in
set_option maxRecDepth 100000 in
theorem c_X0_reachedFrom {l : Launch} {D : va_G} {q : Nat → Nat} {cI cD : ClassId} {rC : Int32} {fi fo fw : Nat → Int32} {fe : Nat → UInt64} {ft fr fp fl : Nat → Int32} {ff : Nat → UInt64} {n : Nat} (hn : 3 ≤ n ∧ n ≤ 6) {T : Nat → Nat} (hT : ∀ j : Nat, j < 6 → ft j = nI (T j) ∧ T j < 64) {s : Nat} (hs : s < 64) : Met l yX0_reachedFrom wsX0_reachedFrom rX0_reachedFrom (va_Pc [.ref (q 0), .int (nI s)] (wPre D (tys2 cI cD) (cW q cI cD (nI n) rC fi fo fw fe ft fr fp fl ff))) (vp_Si (fun r => r = nI (rch T s n))) 0 0 (fun _ => False) := by
  refine met_intro (cc := cX0_reachedFrom) (maxL := 4) (ret := (some .int)) (own := RX0) (by decide) rfl rfl (Nat.le_of_ble_eq_true rfl) ?_
  intro pp ee ss mm args below meth cd Q ls hQ S hr hlocks hv hB hl
  obtain ⟨hx, hb, hml, hown, hts⟩ := id S
  obtain ⟨hP, hK⟩ := hB
  have in_w : ∀ w ∈ wsX00, w ∈ wsX0_reachedFrom := by decide +kernel
  have fl_23 : Cond.fieldLink RX0 23 RX0 (TX0 4).2.1 (TX0 4).2.2.1 ∈ wsX0_reachedFrom := by decide +kernel
  have fl_46 : Cond.fieldLink RX0 46 RX0 (TX0 9).2.1 (TX0 9).2.2.1 ∈ wsX0_reachedFrom := by decide +kernel
  have hl : lv_has ls 4 [(0, .ref (q 0)), (1, .int (nI s))] := hl
  refine lv_iconst (v := nI 0) hx hb dX0_reachedFrom_0 (by decide) ?_
  refine lv_istore_n (lv' := [(2, .int (nI 0)), (0, .ref (q 0)), (1, .int (nI s))]) hx hb dX0_reachedFrom_1 rfl hl (by decide) rfl (fun ls hl => ?_)
  refine lv_iconst (v := nI 0) hx hb dX0_reachedFrom_2 (by decide) ?_
  refine lv_istore_n (lv' := [(3, .int (nI 0)), (2, .int (nI 0)), (0, .ref (q 0)), (1, .int (nI s))]) hx hb dX0_reachedFrom_3 rfl hl (by decide) rfl (fun ls hl => ?_)
  have lp4 : ∀ (j k : Nat), k + j = n → ∀ ls : Array Slot, lv_has ls 4 [(0, .ref (q 0)), (1, .int (nI s)), (2, .int (nI (rch T s k))), (3, .int (nI k))] → W pp l ee rX0_reachedFrom ss mm args below meth cd ss.heap [] 0 0 Q (F0 mm 4 ls []) := by
    intro j
    induction j with
    | zero =>
      intro k hk_k ls hl
      have hke_k : n = k := by omega
      subst hke_k
      refine lv_iload_n hx hb dX0_reachedFrom_4 rfl (lv_at hl 3 rfl) ?_
      refine lv_aload_n hx hb dX0_reachedFrom_5 rfl (lv_at hl 0 rfl) ?_
      refine w_getC (own := RX0) (v := .int (nI n)) S in_w hK hP rfl 9 (by decide) fl_46 rfl rfl dX0_reachedFrom_6 ?_
      refine lv_icmp_ge (tgt := 35) hx hb dX0_reachedFrom_9 (by decide) (fun h9_0 => ?_) (fun h9_0 => absurd (Int32.le_refl _) h9_0)
      refine lv_iload_n hx hb dX0_reachedFrom_35 rfl (lv_at hl 2 rfl) ?_
      subst hQ
      exact W.iret hx hb hr (fun t ht hWm => ⟨_, rfl, rfl, ht⟩) (fun q h => absurd h List.not_mem_nil) dX0_reachedFrom_36
    | succ j ih =>
      intro k hk_k ls hl
      have hlt_k : k < n := by omega
      refine lv_iload_n hx hb dX0_reachedFrom_4 rfl (lv_at hl 3 rfl) ?_
      refine lv_aload_n hx hb dX0_reachedFrom_5 rfl (lv_at hl 0 rfl) ?_
      refine w_getC (own := RX0) (v := .int (nI n)) S in_w hK hP rfl 9 (by decide) fl_46 rfl rfl dX0_reachedFrom_6 ?_
      refine lv_icmp_ge (tgt := 35) hx hb dX0_reachedFrom_9 (by decide) (fun h9_0 => absurd h9_0 (nI_ge hlt_k (by omega))) (fun h9_0 => ?_)
      refine lv_iload_n hx hb dX0_reachedFrom_12 rfl (lv_at hl 1 rfl) ?_
      refine lv_iload_n hx hb dX0_reachedFrom_13 rfl (lv_at hl 3 rfl) ?_
      refine vp_callSi (W.runS (As := [.int (nI s), .int (nI k)]) (rest := []) S (c_X0_contains (s := s) (a := k) (by omega) (by omega)) (va_cwS 2 hts gX0_reachedFrom_X0_contains rfl rfl rfl hdX0_contains ⟨Nat.le_of_ble_eq_true rfl, Nat.le_of_ble_eq_true rfl⟩) preS rfl rfl hl.1 rfl (lv_room (Nat.le_of_ble_eq_true rfl)) dX0_reachedFrom_14 ⟨Nat.zero_le _, Nat.zero_le _⟩) (fun r_1 er_1 => ?_)
      subst er_1
      refine w_ifBeq (tgt := 29) hx hb dX0_reachedFrom_17 (by decide) (fun h17_1 => ?_) (fun h17_1 => ?_)
      · refine lv_iinc (v := nI (k + 1)) (lv' := [(3, .int (nI (k + 1))), (0, .ref (q 0)), (1, .int (nI s)), (2, .int (nI (rch T s k)))]) hx hb dX0_reachedFrom_29 hl (k := 3) rfl (by rw [show Int32.ofInt 1 = nI 1 from by decide, nI_add]) (by decide) rfl (fun ls hl => ?_)
        refine lv_goto (tgt := 4) hx hb dX0_reachedFrom_32 (by decide) ?_
        have eq_2 : nI (rch T s (k + 1)) = nI (rch T s k) := by (unfold rch; rw [itN_succ, h17_1]; rfl)
        have hl : lv_has ls 4 [(3, .int (nI (k + 1))), (0, .ref (q 0)), (1, .int (nI s)), (2, .int (nI (rch T s (k + 1))))] := by first | exact hl | (rw [eq_2]; exact hl)
        exact ih (k + 1) (by omega) ls (lv_sub hl [1, 2, 3, 0] rfl)
      · refine lv_iload_n hx hb dX0_reachedFrom_20 rfl (lv_at hl 2 rfl) ?_
        refine lv_aload_n hx hb dX0_reachedFrom_21 rfl (lv_at hl 0 rfl) ?_
        refine w_getC (own := RX0) (v := .ref (q 5)) S in_w hK hP rfl 4 (by decide) fl_23 rfl rfl dX0_reachedFrom_22 ?_
        refine lv_iload_n hx hb dX0_reachedFrom_25 rfl (lv_at hl 3 rfl) ?_
        refine w_iald hx hb hK hP 5 0 rfl rfl (j := k) (v := nI (T k)) (hT k (by omega)).1 (by omega) (by decide) dX0_reachedFrom_26 ?_
        have hr1 := rch_lt (T := T) (n := n) (fun j hj => (hT j (by omega)).2) s k (by omega)
        have hr2 := (hT k (by omega)).2
        refine lv_ior hx hb dX0_reachedFrom_27 ?_
        rw [nI_or (by omega) (by omega)]
        refine lv_istore_n (lv' := [(2, .int (nI (rch T s k ||| T k))), (0, .ref (q 0)), (1, .int (nI s)), (3, .int (nI k))]) hx hb dX0_reachedFrom_28 rfl hl (by decide) rfl (fun ls hl => ?_)
        refine lv_iinc (v := nI (k + 1)) (lv' := [(3, .int (nI (k + 1))), (2, .int (nI (rch T s k ||| T k))), (0, .ref (q 0)), (1, .int (nI s))]) hx hb dX0_reachedFrom_29 hl (k := 3) rfl (by rw [show Int32.ofInt 1 = nI 1 from by decide, nI_add]) (by decide) rfl (fun ls hl => ?_)
        refine lv_goto (tgt := 4) hx hb dX0_reachedFrom_32 (by decide) ?_
        have eq_3 : nI (rch T s (k + 1)) = nI (rch T s k ||| T k) := by (unfold rch; rw [itN_succ, h17_1]; rfl)
        have hl : lv_has ls 4 [(3, .int (nI (k + 1))), (2, .int (nI (rch T s (k + 1)))), (0, .ref (q 0)), (1, .int (nI s))] := by first | exact hl | (rw [eq_3]; exact hl)
        exact ih (k + 1) (by omega) ls (lv_sub hl [2, 3, 1, 0] rfl)
  exact lp4 (n - 0) 0 (by omega) ls (lv_sub hl [2, 3, 1, 0] rfl)
abbrev rX0_excessOver : Room := { frames := 2, cells := 0, slots := 0, locals := 44 }
theorem hdX0_excessOver : yX0_excessOver.cls = RX0 ∧ yX0_excessOver.cls ≠ "java/lang/invoke/MethodHandle" ∧ yX0_excessOver.cls ≠ "java/lang/invoke/VarHandle" ∧ (parseMethodDescriptor yX0_excessOver.desc).map (fun d => d.parameters.length) = some 2 := by decide +kernel
set_option maxHeartbeats 4000000 in
set_option maxRecDepth 100000 in
theorem c_X0_excessOverO {l : Launch} {D : va_G} {q : Nat → Nat} {cI cD : ClassId} {rC : Int32} {fi fo fw : Nat → Int32} {fe : Nat → UInt64} {ft fr fp fl : Nat → Int32} {ff : Nat → UInt64} {n : Nat} (hn : 3 ≤ n ∧ n ≤ 6) {inf : Nat → Int32} (hI : ag1 n fi inf) {T : Nat → Nat} (hT : ∀ j : Nat, j < 6 → ft j = nI (T j) ∧ T j < 64) {out : Nat → Int32} (hO : ag1 n fo out) {op : Nat → Nat → Bool} (hT2 : ∀ i j : Nat, i < n → j < n → (T i).testBit j = op i j) {s : Nat} (hs : s < 64) : Met l yX0_excessOver wsX0_excessOver rX0_excessOver (va_Pc [.ref (q 0), .int (nI s), .ref (q 2)] (wPre D (tys2 cI cD) (cW q cI cD (nI n) rC fi fo fw fe ft fr fp fl ff))) (vp_Si (fun r => r = exc n op inf out s n)) 0 0 (fun _ => False) := by
  refine met_intro (cc := cX0_excessOver) (maxL := 6) (ret := (some .int)) (own := RX0) (by decide) rfl rfl (Nat.le_of_ble_eq_true rfl) ?_
  intro pp ee ss mm args below meth cd Q ls hQ S hr hlocks hv hB hl
  obtain ⟨hx, hb, hml, hown, hts⟩ := id S
  obtain ⟨hP, hK⟩ := hB
  have in_w : ∀ w ∈ wsX00, w ∈ wsX0_excessOver := by decide +kernel
  have fl_9 : Cond.fieldLink RX0 9 RX0 (TX0 0).2.1 (TX0 0).2.2.1 ∈ wsX0_excessOver := by decide +kernel
  have fl_46 : Cond.fieldLink RX0 46 RX0 (TX0 9).2.1 (TX0 9).2.2.1 ∈ wsX0_excessOver := by decide +kernel
  have hl : lv_has ls 6 [(0, .ref (q 0)), (1, .int (nI s)), (2, .ref (q 2))] := hl
  have hrl := rch_lt (T := T) (n := n) (fun j hj => (hT j (by omega)).2) s n (Nat.le_refl n)
  refine lv_aload_n hx hb dX0_excessOver_0 rfl (lv_at hl 0 rfl) ?_
  refine lv_iload_n hx hb dX0_excessOver_1 rfl (lv_at hl 1 rfl) ?_
  refine vp_callSi (W.runV (As := [.int (nI s)]) (rest := []) S (c_X0_reachedFrom hn hT (s := s) (by omega)) (cwV 1 hts gX0_excessOver_X0_reachedFrom rfl rfl rfl hdX0_reachedFrom ⟨Nat.le_of_ble_eq_true rfl, Nat.le_of_ble_eq_true rfl⟩) (preV hK hP rfl rfl) rfl rfl hl.1 rfl (lv_room (Nat.le_of_ble_eq_true rfl)) dX0_excessOver_2 ⟨Nat.zero_le _, Nat.zero_le _⟩) (fun r_1 er_1 => ?_)
  subst er_1
  refine lv_istore_n (lv' := [(3, .int (nI (rch T s n))), (0, .ref (q 0)), (1, .int (nI s)), (2, .ref (q 2))]) hx hb dX0_excessOver_5 rfl hl (by decide) rfl (fun ls hl => ?_)
  refine lv_iconst (v := nI 0) hx hb dX0_excessOver_6 (by decide) ?_
  refine lv_istore (lv' := [(4, .int (nI 0)), (3, .int (nI (rch T s n))), (0, .ref (q 0)), (1, .int (nI s)), (2, .ref (q 2))]) hx hb dX0_excessOver_7 hl (by decide) rfl (fun ls hl => ?_)
  refine lv_iconst (v := nI 0) hx hb dX0_excessOver_9 (by decide) ?_
  refine lv_istore (lv' := [(5, .int (nI 0)), (4, .int (nI 0)), (3, .int (nI (rch T s n))), (0, .ref (q 0)), (1, .int (nI s)), (2, .ref (q 2))]) hx hb dX0_excessOver_10 hl (by decide) rfl (fun ls hl => ?_)
  have lp12 : ∀ (j k : Nat), k + j = n → ∀ ls : Array Slot, lv_has ls 6 [(0, .ref (q 0)), (1, .int (nI s)), (2, .ref (q 2)), (3, .int (nI (rch T s n))), (4, .int (exc n op inf out s k)), (5, .int (nI k))] → W pp l ee rX0_excessOver ss mm args below meth cd ss.heap [] 0 0 Q (F0 mm 12 ls []) := by
    intro j
    induction j with
    | zero =>
      intro k hk_k ls hl
      have hke_k : n = k := by omega
      subst hke_k
      refine lv_iload hx hb dX0_excessOver_12 (lv_at hl 5 rfl) ?_
      refine lv_aload_n hx hb dX0_excessOver_14 rfl (lv_at hl 0 rfl) ?_
      refine w_getC (own := RX0) (v := .int (nI n)) S in_w hK hP rfl 9 (by decide) fl_46 rfl rfl dX0_excessOver_15 ?_
      refine lv_icmp_ge (tgt := 66) hx hb dX0_excessOver_18 (by decide) (fun h18_0 => ?_) (fun h18_0 => absurd (Int32.le_refl _) h18_0)
      refine lv_iload hx hb dX0_excessOver_66 (lv_at hl 4 rfl) ?_
      subst hQ
      exact W.iret hx hb hr (fun t ht hWm => ⟨_, rfl, rfl, ht⟩) (fun q h => absurd h List.not_mem_nil) dX0_excessOver_68
    | succ j ih =>
      intro k hk_k ls hl
      have hlt_k : k < n := by omega
      refine lv_iload hx hb dX0_excessOver_12 (lv_at hl 5 rfl) ?_
      refine lv_aload_n hx hb dX0_excessOver_14 rfl (lv_at hl 0 rfl) ?_
      refine w_getC (own := RX0) (v := .int (nI n)) S in_w hK hP rfl 9 (by decide) fl_46 rfl rfl dX0_excessOver_15 ?_
      refine lv_icmp_ge (tgt := 66) hx hb dX0_excessOver_18 (by decide) (fun h18_0 => absurd h18_0 (nI_ge hlt_k (by omega))) (fun h18_0 => ?_)
      refine lv_iload_n hx hb dX0_excessOver_21 rfl (lv_at hl 1 rfl) ?_
      refine lv_iload hx hb dX0_excessOver_22 (lv_at hl 5 rfl) ?_
      refine vp_callSi (W.runS (As := [.int (nI s), .int (nI k)]) (rest := []) S (c_X0_contains (s := s) (a := k) (by omega) (by omega)) (va_cwS 2 hts gX0_excessOver_X0_contains rfl rfl rfl hdX0_contains ⟨Nat.le_of_ble_eq_true rfl, Nat.le_of_ble_eq_true rfl⟩) preS rfl rfl hl.1 rfl (lv_room (Nat.le_of_ble_eq_true rfl)) dX0_excessOver_24 ⟨Nat.zero_le _, Nat.zero_le _⟩) (fun r_2 er_2 => ?_)
      subst er_2
      refine w_ifBeq (tgt := 42) hx hb dX0_excessOver_27 (by decide) (fun h27_1 => ?_) (fun h27_1 => ?_)
      · refine lv_iload_n hx hb dX0_excessOver_42 rfl (lv_at hl 3 rfl) ?_
        refine lv_iload hx hb dX0_excessOver_43 (lv_at hl 5 rfl) ?_
        refine vp_callSi (W.runS (As := [.int (nI (rch T s n)), .int (nI k)]) (rest := []) S (c_X0_contains (s := rch T s n) (a := k) (by omega) (by omega)) (va_cwS 2 hts gX0_excessOver_X0_contains rfl rfl rfl hdX0_contains ⟨Nat.le_of_ble_eq_true rfl, Nat.le_of_ble_eq_true rfl⟩) preS rfl rfl hl.1 rfl (lv_room (Nat.le_of_ble_eq_true rfl)) dX0_excessOver_45 ⟨Nat.zero_le _, Nat.zero_le _⟩) (fun r_3 er_3 => ?_)
        subst er_3
        rw [rch_bit hT2 s (b := k) (by omega) n (Nat.le_refl n)]
        refine w_ifBeq (tgt := 60) hx hb dX0_excessOver_48 (by decide) (fun h48_2 => ?_) (fun h48_2 => ?_)
        · refine lv_iinc (v := nI (k + 1)) (lv' := [(5, .int (nI (k + 1))), (0, .ref (q 0)), (1, .int (nI s)), (2, .ref (q 2)), (3, .int (nI (rch T s n))), (4, .int (exc n op inf out s k))]) hx hb dX0_excessOver_60 hl (k := 5) rfl (by rw [show Int32.ofInt 1 = nI 1 from by decide, nI_add]) (by decide) rfl (fun ls hl => ?_)
          refine lv_goto (tgt := 12) hx hb dX0_excessOver_63 (by decide) ?_
          have eq_4 : exc n op inf out s (k + 1) = exc n op inf out s k := by (unfold exc; rw [itN_succ]; simp only [h27_1, h48_2, reduceIte, Bool.false_eq_true])
          have hl : lv_has ls 6 [(5, .int (nI (k + 1))), (0, .ref (q 0)), (1, .int (nI s)), (2, .ref (q 2)), (3, .int (nI (rch T s n))), (4, .int (exc n op inf out s (k + 1)))] := by first | exact hl | (rw [eq_4]; exact hl)
          exact ih (k + 1) (by omega) ls (lv_sub hl [1, 2, 3, 4, 5, 0] rfl)
        · refine lv_iload hx hb dX0_excessOver_51 (lv_at hl 4 rfl) ?_
          refine lv_aload_n hx hb dX0_excessOver_53 rfl (lv_at hl 2 rfl) ?_
          refine lv_iload hx hb dX0_excessOver_54 (lv_at hl 5 rfl) ?_
          refine w_iald hx hb hK hP 2 0 rfl rfl (j := k) (v := out k) (hO k (by omega)) (by omega) (by decide) dX0_excessOver_56 ?_
          refine lv_isub hx hb dX0_excessOver_57 ?_
          refine lv_istore (lv' := [(4, .int ((exc n op inf out s k) - (out k))), (0, .ref (q 0)), (1, .int (nI s)), (2, .ref (q 2)), (3, .int (nI (rch T s n))), (5, .int (nI k))]) hx hb dX0_excessOver_58 hl (by decide) rfl (fun ls hl => ?_)
          refine lv_iinc (v := nI (k + 1)) (lv' := [(5, .int (nI (k + 1))), (4, .int ((exc n op inf out s k) - (out k))), (0, .ref (q 0)), (1, .int (nI s)), (2, .ref (q 2)), (3, .int (nI (rch T s n)))]) hx hb dX0_excessOver_60 hl (k := 5) rfl (by rw [show Int32.ofInt 1 = nI 1 from by decide, nI_add]) (by decide) rfl (fun ls hl => ?_)
          refine lv_goto (tgt := 12) hx hb dX0_excessOver_63 (by decide) ?_
          have eq_5 : exc n op inf out s (k + 1) = (exc n op inf out s k) - (out k) := by (unfold exc; rw [itN_succ]; simp only [h27_1, h48_2, reduceIte, Bool.false_eq_true])
          have hl : lv_has ls 6 [(5, .int (nI (k + 1))), (4, .int (exc n op inf out s (k + 1))), (0, .ref (q 0)), (1, .int (nI s)), (2, .ref (q 2)), (3, .int (nI (rch T s n)))] := by first | exact hl | (rw [eq_5]; exact hl)
          exact ih (k + 1) (by omega) ls (lv_sub hl [2, 3, 4, 5, 1, 0] rfl)
      · refine lv_iload hx hb dX0_excessOver_30 (lv_at hl 4 rfl) ?_
        refine lv_aload_n hx hb dX0_excessOver_32 rfl (lv_at hl 0 rfl) ?_
        refine w_getC (own := RX0) (v := .ref (q 1)) S in_w hK hP rfl 0 (by decide) fl_9 rfl rfl dX0_excessOver_33 ?_
        refine lv_iload hx hb dX0_excessOver_36 (lv_at hl 5 rfl) ?_
        refine w_iald hx hb hK hP 1 0 rfl rfl (j := k) (v := inf k) (hI k (by omega)) (by omega) (by decide) dX0_excessOver_38 ?_
        refine lv_iadd hx hb dX0_excessOver_39 ?_
        refine lv_istore (lv' := [(4, .int ((exc n op inf out s k) + (inf k))), (0, .ref (q 0)), (1, .int (nI s)), (2, .ref (q 2)), (3, .int (nI (rch T s n))), (5, .int (nI k))]) hx hb dX0_excessOver_40 hl (by decide) rfl (fun ls hl => ?_)
        refine lv_iload_n hx hb dX0_excessOver_42 rfl (lv_at hl 4 rfl) ?_
        refine lv_iload hx hb dX0_excessOver_43 (lv_at hl 5 rfl) ?_
        refine vp_callSi (W.runS (As := [.int (nI (rch T s n)), .int (nI k)]) (rest := []) S (c_X0_contains (s := rch T s n) (a := k) (by omega) (by omega)) (va_cwS 2 hts gX0_excessOver_X0_contains rfl rfl rfl hdX0_contains ⟨Nat.le_of_ble_eq_true rfl, Nat.le_of_ble_eq_true rfl⟩) preS rfl rfl hl.1 rfl (lv_room (Nat.le_of_ble_eq_true rfl)) dX0_excessOver_45 ⟨Nat.zero_le _, Nat.zero_le _⟩) (fun r_6 er_6 => ?_)
        subst er_6
        rw [rch_bit hT2 s (b := k) (by omega) n (Nat.le_refl n)]
        refine w_ifBeq (tgt := 60) hx hb dX0_excessOver_48 (by decide) (fun h48_2 => ?_) (fun h48_2 => ?_)
        · refine lv_iinc (v := nI (k + 1)) (lv' := [(5, .int (nI (k + 1))), (4, .int ((exc n op inf out s k) + (inf k))), (0, .ref (q 0)), (1, .int (nI s)), (2, .ref (q 2)), (3, .int (nI (rch T s n)))]) hx hb dX0_excessOver_60 hl (k := 5) rfl (by rw [show Int32.ofInt 1 = nI 1 from by decide, nI_add]) (by decide) rfl (fun ls hl => ?_)
          refine lv_goto (tgt := 12) hx hb dX0_excessOver_63 (by decide) ?_
          have eq_7 : exc n op inf out s (k + 1) = (exc n op inf out s k) + (inf k) := by (unfold exc; rw [itN_succ]; simp only [h27_1, h48_2, reduceIte, Bool.false_eq_true])
          have hl : lv_has ls 6 [(5, .int (nI (k + 1))), (4, .int (exc n op inf out s (k + 1))), (0, .ref (q 0)), (1, .int (nI s)), (2, .ref (q 2)), (3, .int (nI (rch T s n)))] := by first | exact hl | (rw [eq_7]; exact hl)
          exact ih (k + 1) (by omega) ls (lv_sub hl [2, 3, 4, 5, 1, 0] rfl)
        · refine lv_iload hx hb dX0_excessOver_51 (lv_at hl 0 rfl) ?_
          refine lv_aload_n hx hb dX0_excessOver_53 rfl (lv_at hl 3 rfl) ?_
          refine lv_iload hx hb dX0_excessOver_54 (lv_at hl 5 rfl) ?_
          refine w_iald hx hb hK hP 2 0 rfl rfl (j := k) (v := out k) (hO k (by omega)) (by omega) (by decide) dX0_excessOver_56 ?_
          refine lv_isub hx hb dX0_excessOver_57 ?_
          refine lv_istore (lv' := [(4, .int (((exc n op inf out s k) + (inf k)) - (out k))), (0, .ref (q 0)), (1, .int (nI s)), (2, .ref (q 2)), (3, .int (nI (rch T s n))), (5, .int (nI k))]) hx hb dX0_excessOver_58 hl (by decide) rfl (fun ls hl => ?_)
          refine lv_iinc (v := nI (k + 1)) (lv' := [(5, .int (nI (k + 1))), (4, .int (((exc n op inf out s k) + (inf k)) - (out k))), (0, .ref (q 0)), (1, .int (nI s)), (2, .ref (q 2)), (3, .int (nI (rch T s n)))]) hx hb dX0_excessOver_60 hl (k := 5) rfl (by rw [show Int32.ofInt 1 = nI 1 from by decide, nI_add]) (by decide) rfl (fun ls hl => ?_)
          refine lv_goto (tgt := 12) hx hb dX0_excessOver_63 (by decide) ?_
          have eq_8 : exc n op inf out s (k + 1) = ((exc n op inf out s k) + (inf k)) - (out k) := by (unfold exc; rw [itN_succ]; simp only [h27_1, h48_2, reduceIte, Bool.false_eq_true])
          have hl : lv_has ls 6 [(5, .int (nI (k + 1))), (4, .int (exc n op inf out s (k + 1))), (0, .ref (q 0)), (1, .int (nI s)), (2, .ref (q 2)), (3, .int (nI (rch T s n)))] := by first | exact hl | (rw [eq_8]; exact hl)
          exact ih (k + 1) (by omega) ls (lv_sub hl [2, 3, 4, 5, 1, 0] rfl)
  exact lp12 (n - 0) 0 (by omega) ls (lv_sub hl [3, 4, 5, 2, 1, 0] rfl)
set_option maxHeartbeats 4000000 in
set_option maxRecDepth 100000 in
theorem c_X0_excessOverL {l : Launch} {D : va_G} {q : Nat → Nat} {cI cD : ClassId} {rC : Int32} {fi fo fw : Nat → Int32} {fe : Nat → UInt64} {ft fr fp fl : Nat → Int32} {ff : Nat → UInt64} {n : Nat} (hn : 3 ≤ n ∧ n ≤ 6) {inf : Nat → Int32} (hI : ag1 n fi inf) {T : Nat → Nat} (hT : ∀ j : Nat, j < 6 → ft j = nI (T j) ∧ T j < 64) {ol : Nat → Int32} (hL : ag1 n fl ol) {op : Nat → Nat → Bool} (hT2 : ∀ i j : Nat, i < n → j < n → (T i).testBit j = op i j) {s : Nat} (hs : s < 64) : Met l yX0_excessOver wsX0_excessOver rX0_excessOver (va_Pc [.ref (q 0), .int (nI s), .ref (q 8)] (wPre D (tys2 cI cD) (cW q cI cD (nI n) rC fi fo fw fe ft fr fp fl ff))) (vp_Si (fun r => r = exc n op inf ol s n)) 0 0 (fun _ => False) := by
  refine met_intro (cc := cX0_excessOver) (maxL := 6) (ret := (some .int)) (own := RX0) (by decide) rfl rfl (Nat.le_of_ble_eq_true rfl) ?_
  intro pp ee ss mm args below meth cd Q ls hQ S hr hlocks hv hB hl
  obtain ⟨hx, hb, hml, hown, hts⟩ := id S
  obtain ⟨hP, hK⟩ := hB
  have in_w : ∀ w ∈ wsX00, w ∈ wsX0_excessOver := by decide +kernel
  have fl_9 : Cond.fieldLink RX0 9 RX0 (TX0 0).2.1 (TX0 0).2.2.1 ∈ wsX0_excessOver := by decide +kernel
  have fl_46 : Cond.fieldLink RX0 46 RX0 (TX0 9).2.1 (TX0 9).2.2.1 ∈ wsX0_excessOver := by decide +kernel
  have hl : lv_has ls 6 [(0, .ref (q 0)), (1, .int (nI s)), (2, .ref (q 8))] := hl
  have hrl := rch_lt (T := T) (n := n) (fun j hj => (hT j (by omega)).2) s n (Nat.le_refl n)
  refine lv_aload_n hx hb dX0_excessOver_0 rfl (lv_at hl 0 rfl) ?_
  refine lv_iload_n hx hb dX0_excessOver_1 rfl (lv_at hl 1 rfl) ?_
  refine vp_callSi (W.runV (As := [.int (nI s)]) (rest := []) S (c_X0_reachedFrom hn hT (s := s) (by omega)) (cwV 1 hts gX0_excessOver_X0_reachedFrom rfl rfl rfl hdX0_reachedFrom ⟨Nat.le_of_ble_eq_true rfl, Nat.le_of_ble_eq_true rfl⟩) (preV hK hP rfl rfl) rfl rfl hl.1 rfl (lv_room (Nat.le_of_ble_eq_true rfl)) dX0_excessOver_2 ⟨Nat.zero_le _, Nat.zero_le _⟩) (fun r_1 er_1 => ?_)
  subst er_1
  refine lv_istore_n (lv' := [(3, .int (nI (rch T s n))), (0, .ref (q 0)), (1, .int (nI s)), (2, .ref (q 8))]) hx hb dX0_excessOver_5 rfl hl (by decide) rfl (fun ls hl => ?_)
  refine lv_iconst (v := nI 0) hx hb dX0_excessOver_6 (by decide) ?_
  refine lv_istore (lv' := [(4, .int (nI 0)), (3, .int (nI (rch T s n))), (0, .ref (q 0)), (1, .int (nI s)), (2, .ref (q 8))]) hx hb dX0_excessOver_7 hl (by decide) rfl (fun ls hl => ?_)
  refine lv_iconst (v := nI 0) hx hb dX0_excessOver_9 (by decide) ?_
  refine lv_istore (lv' := [(5, .int (nI 0)), (4, .int (nI 0)), (3, .int (nI (rch T s n))), (0, .ref (q 0)), (1, .int (nI s)), (2, .ref (q 8))]) hx hb dX0_excessOver_10 hl (by decide) rfl (fun ls hl => ?_)
  have lp12 : ∀ (j k : Nat), k + j = n → ∀ ls : Array Slot, lv_has ls 6 [(0, .ref (q 0)), (1, .int (nI s)), (2, .ref (q 8)), (3, .int (nI (rch T s n))), (4, .int (exc n op inf ol s k)), (5, .int (nI k))] → W pp l ee rX0_excessOver ss mm args below meth cd ss.heap [] 0 0 Q (F0 mm 12 ls []) := by
    intro j
    induction j with
    | zero =>
      intro k hk_k ls hl
      have hke_k : n = k := by omega
      subst hke_k
      refine lv_iload hx hb dX0_excessOver_12 (lv_at hl 5 rfl) ?_
      refine lv_aload_n hx hb dX0_excessOver_14 rfl (lv_at hl 0 rfl) ?_
      refine w_getC (own := RX0) (v := .int (nI n)) S in_w hK hP rfl 9 (by decide) fl_46 rfl rfl dX0_excessOver_15 ?_
      refine lv_icmp_ge (tgt := 66) hx hb dX0_excessOver_18 (by decide) (fun h18_0 => ?_) (fun h18_0 => absurd (Int32.le_refl _) h18_0)
      refine lv_iload hx hb dX0_excessOver_66 (lv_at hl 4 rfl) ?_
      subst hQ
      exact W.iret hx hb hr (fun t ht hWm => ⟨_, rfl, rfl, ht⟩) (fun q h => absurd h List.not_mem_nil) dX0_excessOver_68
    | succ j ih =>
      intro k hk_k ls hl
      have hlt_k : k < n := by omega
      refine lv_iload hx hb dX0_excessOver_12 (lv_at hl 5 rfl) ?_
      refine lv_aload_n hx hb dX0_excessOver_14 rfl (lv_at hl 0 rfl) ?_
      refine w_getC (own := RX0) (v := .int (nI n)) S in_w hK hP rfl 9 (by decide) fl_46 rfl rfl dX0_excessOver_15 ?_
      refine lv_icmp_ge (tgt := 66) hx hb dX0_excessOver_18 (by decide) (fun h18_0 => absurd h18_0 (nI_ge hlt_k (by omega))) (fun h18_0 => ?_)
      refine lv_iload_n hx hb dX0_excessOver_21 rfl (lv_at hl 1 rfl) ?_
      refine lv_iload hx hb dX0_excessOver_22 (lv_at hl 5 rfl) ?_
      refine vp_callSi (W.runS (As := [.int (nI s), .int (nI k)]) (rest := []) S (c_X0_contains (s := s) (a := k) (by omega) (by omega)) (va_cwS 2 hts gX0_excessOver_X0_contains rfl rfl rfl hdX0_contains ⟨Nat.le_of_ble_eq_true rfl, Nat.le_of_ble_eq_true rfl⟩) preS rfl rfl hl.1 rfl (lv_room (Nat.le_of_ble_eq_true rfl)) dX0_excessOver_24 ⟨Nat.zero_le _, Nat.zero_le _⟩) (fun r_2 er_2 => ?_)
      subst er_2
      refine w_ifBeq (tgt := 42) hx hb dX0_excessOver_27 (by decide) (fun h27_1 => ?_) (fun h27_1 => ?_)
      · refine lv_iload_n hx hb dX0_excessOver_42 rfl (lv_at hl 3 rfl) ?_
        refine lv_iload hx hb dX0_excessOver_43 (lv_at hl 5 rfl) ?_
        refine vp_callSi (W.runS (As := [.int (nI (rch T s n)), .int (nI k)]) (rest := []) S (c_X0_contains (s := rch T s n) (a := k) (by omega) (by omega)) (va_cwS 2 hts gX0_excessOver_X0_contains rfl rfl rfl hdX0_contains ⟨Nat.le_of_ble_eq_true rfl, Nat.le_of_ble_eq_true rfl⟩) preS rfl rfl hl.1 rfl (lv_room (Nat.le_of_ble_eq_true rfl)) dX0_excessOver_45 ⟨Nat.zero_le _, Nat.zero_le _⟩) (fun r_3 er_3 => ?_)
        subst er_3
        rw [rch_bit hT2 s (b := k) (by omega) n (Nat.le_refl n)]
        refine w_ifBeq (tgt := 60) hx hb dX0_excessOver_48 (by decide) (fun h48_2 => ?_) (fun h48_2 => ?_)
        · refine lv_iinc (v := nI (k + 1)) (lv' := [(5, .int (nI (k + 1))), (0, .ref (q 0)), (1, .int (nI s)), (2, .ref (q 8)), (3, .int (nI (rch T s n))), (4, .int (exc n op inf ol s k))]) hx hb dX0_excessOver_60 hl (k := 5) rfl (by rw [show Int32.ofInt 1 = nI 1 from by decide, nI_add]) (by decide) rfl (fun ls hl => ?_)
          refine lv_goto (tgt := 12) hx hb dX0_excessOver_63 (by decide) ?_
          have eq_4 : exc n op inf ol s (k + 1) = exc n op inf ol s k := by (unfold exc; rw [itN_succ]; simp only [h27_1, h48_2, reduceIte, Bool.false_eq_true])
          have hl : lv_has ls 6 [(5, .int (nI (k + 1))), (0, .ref (q 0)), (1, .int (nI s)), (2, .ref (q 8)), (3, .int (nI (rch T s n))), (4, .int (exc n op inf ol s (k + 1)))] := by first | exact hl | (rw [eq_4]; exact hl)
          exact ih (k + 1) (by omega) ls (lv_sub hl [1, 2, 3, 4, 5, 0] rfl)
        · refine lv_iload hx hb dX0_excessOver_51 (lv_at hl 4 rfl) ?_
          refine lv_aload_n hx hb dX0_excessOver_53 rfl (lv_at hl 2 rfl) ?_
          refine lv_iload hx hb dX0_excessOver_54 (lv_at hl 5 rfl) ?_
          refine w_iald hx hb hK hP 8 0 rfl rfl (j := k) (v := ol k) (hL k (by omega)) (by omega) (by decide) dX0_excessOver_56 ?_
          refine lv_isub hx hb dX0_excessOver_57 ?_
          refine lv_istore (lv' := [(4, .int ((exc n op inf ol s k) - (ol k))), (0, .ref (q 0)), (1, .int (nI s)), (2, .ref (q 8)), (3, .int (nI (rch T s n))), (5, .int (nI k))]) hx hb dX0_excessOver_58 hl (by decide) rfl (fun ls hl => ?_)
          refine lv_iinc (v := nI (k + 1)) (lv' := [(5, .int (nI (k + 1))), (4, .int ((exc n op inf ol s k) - (ol k))), (0, .ref (q 0)), (1, .int (nI s)), (2, .ref (q 8)), (3, .int (nI (rch T s n)))]) hx hb dX0_excessOver_60 hl (k := 5) rfl (by rw [show Int32.ofInt 1 = nI 1 from by decide, nI_add]) (by decide) rfl (fun ls hl => ?_)
          refine lv_goto (tgt := 12) hx hb dX0_excessOver_63 (by decide) ?_
          have eq_5 : exc n op inf ol s (k + 1) = (exc n op inf ol s k) - (ol k) := by (unfold exc; rw [itN_succ]; simp only [h27_1, h48_2, reduceIte, Bool.false_eq_true])
          have hl : lv_has ls 6 [(5, .int (nI (k + 1))), (4, .int (exc n op inf ol s (k + 1))), (0, .ref (q 0)), (1, .int (nI s)), (2, .ref (q 8)), (3, .int (nI (rch T s n)))] := by first | exact hl | (rw [eq_5]; exact hl)
          exact ih (k + 1) (by omega) ls (lv_sub hl [2, 3, 4, 5, 1, 0] rfl)
      · refine lv_iload hx hb dX0_excessOver_30 (lv_at hl 4 rfl) ?_
        refine lv_aload_n hx hb dX0_excessOver_32 rfl (lv_at hl 0 rfl) ?_
        refine w_getC (own := RX0) (v := .ref (q 1)) S in_w hK hP rfl 0 (by decide) fl_9 rfl rfl dX0_excessOver_33 ?_
        refine lv_iload hx hb dX0_excessOver_36 (lv_at hl 5 rfl) ?_
        refine w_iald hx hb hK hP 1 0 rfl rfl (j := k) (v := inf k) (hI k (by omega)) (by omega) (by decide) dX0_excessOver_38 ?_
        refine lv_iadd hx hb dX0_excessOver_39 ?_
        refine lv_istore (lv' := [(4, .int ((exc n op inf ol s k) + (inf k))), (0, .ref (q 0)), (1, .int (nI s)), (2, .ref (q 8)), (3, .int (nI (rch T s n))), (5, .int (nI k))]) hx hb dX0_excessOver_40 hl (by decide) rfl (fun ls hl => ?_)
        refine lv_iload_n hx hb dX0_excessOver_42 rfl (lv_at hl 4 rfl) ?_
        refine lv_iload hx hb dX0_excessOver_43 (lv_at hl 5 rfl) ?_
        refine vp_callSi (W.runS (As := [.int (nI (rch T s n)), .int (nI k)]) (rest := []) S (c_X0_contains (s := rch T s n) (a := k) (by omega) (by omega)) (va_cwS 2 hts gX0_excessOver_X0_contains rfl rfl rfl hdX0_contains ⟨Nat.le_of_ble_eq_true rfl, Nat.le_of_ble_eq_true rfl⟩) preS rfl rfl hl.1 rfl (lv_room (Nat.le_of_ble_eq_true rfl)) dX0_excessOver_45 ⟨Nat.zero_le _, Nat.zero_le _⟩) (fun r_6 er_6 => ?_)
        subst er_6
        rw [rch_bit hT2 s (b := k) (by omega) n (Nat.le_refl n)]
        refine w_ifBeq (tgt := 60) hx hb dX0_excessOver_48 (by decide) (fun h48_2 => ?_) (fun h48_2 => ?_)
        · refine lv_iinc (v := nI (k + 1)) (lv' := [(5, .int (nI (k + 1))), (4, .int ((exc n op inf ol s k) + (inf k))), (0, .ref (q 0)), (1, .int (nI s)), (2, .ref (q 8)), (3, .int (nI (rch T s n)))]) hx hb dX0_excessOver_60 hl (k := 5) rfl (by rw [show Int32.ofInt 1 = nI 1 from by decide, nI_add]) (by decide) rfl (fun ls hl => ?_)
          refine lv_goto (tgt := 12) hx hb dX0_excessOver_63 (by decide) ?_
          have eq_7 : exc n op inf ol s (k + 1) = (exc n op inf ol s k) + (inf k) := by (unfold exc; rw [itN_succ]; simp only [h27_1, h48_2, reduceIte, Bool.false_eq_true])
          have hl : lv_has ls 6 [(5, .int (nI (k + 1))), (4, .int (exc n op inf ol s (k + 1))), (0, .ref (q 0)), (1, .int (nI s)), (2, .ref (q 8)), (3, .int (nI (rch T s n)))] := by first | exact hl | (rw [eq_7]; exact hl)
          exact ih (k + 1) (by omega) ls (lv_sub hl [2, 3, 4, 5, 1, 0] rfl)
        · refine lv_iload hx hb dX0_excessOver_51 (lv_at hl 0 rfl) ?_
          refine lv_aload_n hx hb dX0_excessOver_53 rfl (lv_at hl 3 rfl) ?_
          refine lv_iload hx hb dX0_excessOver_54 (lv_at hl 5 rfl) ?_
          refine w_iald hx hb hK hP 8 0 rfl rfl (j := k) (v := ol k) (hL k (by omega)) (by omega) (by decide) dX0_excessOver_56 ?_
          refine lv_isub hx hb dX0_excessOver_57 ?_
          refine lv_istore (lv' := [(4, .int (((exc n op inf ol s k) + (inf k)) - (ol k))), (0, .ref (q 0)), (1, .int (nI s)), (2, .ref (q 8)), (3, .int (nI (rch T s n))), (5, .int (nI k))]) hx hb dX0_excessOver_58 hl (by decide) rfl (fun ls hl => ?_)
          refine lv_iinc (v := nI (k + 1)) (lv' := [(5, .int (nI (k + 1))), (4, .int (((exc n op inf ol s k) + (inf k)) - (ol k))), (0, .ref (q 0)), (1, .int (nI s)), (2, .ref (q 8)), (3, .int (nI (rch T s n)))]) hx hb dX0_excessOver_60 hl (k := 5) rfl (by rw [show Int32.ofInt 1 = nI 1 from by decide, nI_add]) (by decide) rfl (fun ls hl => ?_)
          refine lv_goto (tgt := 12) hx hb dX0_excessOver_63 (by decide) ?_
          have eq_8 : exc n op inf ol s (k + 1) = ((exc n op inf ol s k) + (inf k)) - (ol k) := by (unfold exc; rw [itN_succ]; simp only [h27_1, h48_2, reduceIte, Bool.false_eq_true])
          have hl : lv_has ls 6 [(5, .int (nI (k + 1))), (4, .int (exc n op inf ol s (k + 1))), (0, .ref (q 0)), (1, .int (nI s)), (2, .ref (q 8)), (3, .int (nI (rch T s n)))] := by first | exact hl | (rw [eq_8]; exact hl)
          exact ih (k + 1) (by omega) ls (lv_sub hl [2, 3, 4, 5, 1, 0] rfl)
  exact lp12 (n - 0) 0 (by omega) ls (lv_sub hl [3, 4, 5, 2, 1, 0] rfl)
abbrev rX0_crowdedSet : Room := { frames := 3, cells := 0, slots := 0, locals := 69 }
theorem hdX0_crowdedSet : yX0_crowdedSet.cls = RX0 ∧ yX0_crowdedSet.cls ≠ "java/lang/invoke/MethodHandle" ∧ yX0_crowdedSet.cls ≠ "java/lang/invoke/VarHandle" ∧ (parseMethodDescriptor yX0_crowdedSet.desc).map (fun d => d.parameters.length) = some 0 := by decide +kernel
set_option maxHeartbeats 4000000 in
set_option maxRecDepth 100000 in
theorem c_X0_crowdedSet {l : Launch} {D : va_G} {q : Nat → Nat} {cI cD : ClassId} {rC : Int32} {fi fo fw : Nat → Int32} {fe : Nat → UInt64} {ft fr fp fl : Nat → Int32} {ff : Nat → UInt64} {n : Nat} (hn : 3 ≤ n ∧ n ≤ 6) {inf : Nat → Int32} (hI : ag1 n fi inf) {out : Nat → Int32} (hO : ag1 n fo out) {T : Nat → Nat} (hT : ∀ j : Nat, j < 6 → ft j = nI (T j) ∧ T j < 64) {op : Nat → Nat → Bool} (hT2 : ∀ i j : Nat, i < n → j < n → (T i).testBit j = op i j)  : Met l yX0_crowdedSet wsX0_crowdedSet rX0_crowdedSet (va_Pc [.ref (q 0)] (wPre D (tys2 cI cD) (cW q cI cD (nI n) rC fi fo fw fe ft fr fp fl ff))) (vp_Si (fun r => r = crd n op inf out)) 0 0 (fun _ => False) := by
  refine met_intro (cc := cX0_crowdedSet) (maxL := 2) (ret := (some .int)) (own := RX0) (by decide) rfl rfl (Nat.le_of_ble_eq_true rfl) ?_
  intro pp ee ss mm args below meth cd Q ls hQ S hr hlocks hv hB hl
  obtain ⟨hx, hb, hml, hown, hts⟩ := id S
  obtain ⟨hP, hK⟩ := hB
  have in_w : ∀ w ∈ wsX00, w ∈ wsX0_crowdedSet := by decide +kernel
  have fl_13 : Cond.fieldLink RX0 13 RX0 (TX0 1).2.1 (TX0 1).2.2.1 ∈ wsX0_crowdedSet := by decide +kernel
  have hl : lv_has ls 2 [(0, .ref (q 0))] := hl
  have hp6 := pow6 hn
  refine lv_iconst (v := nI 1) hx hb dX0_crowdedSet_0 (by decide) ?_
  refine lv_istore_n (lv' := [(1, .int (nI 1)), (0, .ref (q 0))]) hx hb dX0_crowdedSet_1 rfl hl (by decide) rfl (fun ls hl => ?_)
  have lp2 : ∀ (j k : Nat), k + j = 2 ^ n → (crdF (excP n op inf out) j k = crd n op inf out) → ∀ ls : Array Slot, lv_has ls 2 [(0, .ref (q 0)), (1, .int (nI k))] → W pp l ee rX0_crowdedSet ss mm args below meth cd ss.heap [] 0 0 Q (F0 mm 2 ls []) := by
    intro j
    induction j with
    | zero =>
      intro k hk_k hcr ls hl
      have hke_k : 2 ^ n = k := by omega
      subst hke_k
      refine lv_iload_n hx hb dX0_crowdedSet_2 rfl (lv_at hl 1 rfl) ?_
      refine lv_aload_n hx hb dX0_crowdedSet_3 rfl (lv_at hl 0 rfl) ?_
      refine vp_callSi (W.runV (As := []) (rest := [.int (nI (2 ^ n))]) S (c_X0_allArms hn) (cwV 0 hts gX0_crowdedSet_X0_allArms rfl rfl rfl hdX0_allArms ⟨Nat.le_of_ble_eq_true rfl, Nat.le_of_ble_eq_true rfl⟩) (preV hK hP rfl rfl) rfl rfl hl.1 rfl (lv_room (Nat.le_of_ble_eq_true rfl)) dX0_crowdedSet_4 ⟨Nat.zero_le _, Nat.zero_le _⟩) (fun r_1 er_1 => ?_)
      subst er_1
      refine lv_icmp_gt (tgt := 30) hx hb dX0_crowdedSet_7 (by decide) (fun h7_0 => ?_) (fun h7_0 => absurd (nI_lt (by omega) (by omega)) h7_0)
      refine lv_iconst (v := -1) hx hb dX0_crowdedSet_30 (by decide) ?_
      subst hQ
      exact W.iret hx hb hr (fun t ht hWm => ⟨_, rfl, (by rw [← hcr]; rfl), ht⟩) (fun q h => absurd h List.not_mem_nil) dX0_crowdedSet_31
    | succ j ih =>
      intro k hk_k hcr ls hl
      have hlt_k : k < 2 ^ n := by omega
      refine lv_iload_n hx hb dX0_crowdedSet_2 rfl (lv_at hl 1 rfl) ?_
      refine lv_aload_n hx hb dX0_crowdedSet_3 rfl (lv_at hl 0 rfl) ?_
      refine vp_callSi (W.runV (As := []) (rest := [.int (nI k)]) S (c_X0_allArms hn) (cwV 0 hts gX0_crowdedSet_X0_allArms rfl rfl rfl hdX0_allArms ⟨Nat.le_of_ble_eq_true rfl, Nat.le_of_ble_eq_true rfl⟩) (preV hK hP rfl rfl) rfl rfl hl.1 rfl (lv_room (Nat.le_of_ble_eq_true rfl)) dX0_crowdedSet_4 ⟨Nat.zero_le _, Nat.zero_le _⟩) (fun r_2 er_2 => ?_)
      subst er_2
      refine lv_icmp_gt (tgt := 30) hx hb dX0_crowdedSet_7 (by decide) (fun h7_0 => absurd h7_0 (nI_nlt (by omega) (by omega))) (fun h7_0 => ?_)
      refine lv_aload_n hx hb dX0_crowdedSet_10 rfl (lv_at hl 0 rfl) ?_
      refine lv_iload_n hx hb dX0_crowdedSet_11 rfl (lv_at hl 1 rfl) ?_
      refine lv_aload_n hx hb dX0_crowdedSet_12 rfl (lv_at hl 0 rfl) ?_
      refine w_getC (own := RX0) (v := .ref (q 2)) S in_w hK hP rfl 1 (by decide) fl_13 rfl rfl dX0_crowdedSet_13 ?_
      refine vp_callSi (W.runV (As := [.int (nI k), .ref (q 2)]) (rest := []) S (c_X0_excessOverO hn hI hT hO hT2 (s := k) (by omega)) (cwV 2 hts gX0_crowdedSet_X0_excessOver rfl rfl rfl hdX0_excessOver ⟨Nat.le_of_ble_eq_true rfl, Nat.le_of_ble_eq_true rfl⟩) (preV hK hP rfl rfl) rfl rfl hl.1 rfl (lv_room (Nat.le_of_ble_eq_true rfl)) dX0_crowdedSet_16 ⟨Nat.zero_le _, Nat.zero_le _⟩) (fun r_3 er_3 => ?_)
      subst er_3
      refine lv_if_le (tgt := 24) hx hb dX0_crowdedSet_19 (by decide) (fun h19_1 => ?_) (fun h19_1 => ?_)
      · refine lv_iinc (v := nI (k + 1)) (lv' := [(1, .int (nI (k + 1))), (0, .ref (q 0))]) hx hb dX0_crowdedSet_24 hl (k := 1) rfl (by rw [show Int32.ofInt 1 = nI 1 from by decide, nI_add]) (by decide) rfl (fun ls hl => ?_)
        refine lv_goto (tgt := 2) hx hb dX0_crowdedSet_27 (by decide) ?_
        exact ih (k + 1) (by omega) (by rw [← hcr]; show crdF (excP n op inf out) j (k + 1) = if excP n op inf out k = true then nI k else crdF (excP n op inf out) j (k + 1); rw [if_neg]; unfold excP; rw [decide_eq_true_iff]; exact Int32.not_lt.mpr h19_1) ls (lv_sub hl [1, 0] rfl)
      · refine lv_iload_n hx hb dX0_crowdedSet_22 rfl (lv_at hl 1 rfl) ?_
        subst hQ
        exact W.iret hx hb hr (fun t ht hWm => ⟨_, rfl, (by rw [← hcr]; unfold crdF; rw [if_pos (show excP n op inf out k = true from decide_eq_true (Int32.not_le.mp h19_1))]), ht⟩) (fun q h => absurd h List.not_mem_nil) dX0_crowdedSet_23
  exact lp2 (2 ^ n - 1) 1 (by omega) rfl ls (lv_sub hl [1, 0] rfl)
abbrev rX0_isPossible : Room := { frames := 4, cells := 0, slots := 0, locals := 90 }
theorem hdX0_isPossible : yX0_isPossible.cls = RX0 ∧ yX0_isPossible.cls ≠ "java/lang/invoke/MethodHandle" ∧ yX0_isPossible.cls ≠ "java/lang/invoke/VarHandle" ∧ (parseMethodDescriptor yX0_isPossible.desc).map (fun d => d.parameters.length) = some 0 := by decide +kernel
set_option maxHeartbeats 4000000 in
set_option maxRecDepth 100000 in
theorem c_X0_isPossible {l : Launch} {D : va_G} {q : Nat → Nat} {cI cD : ClassId} {rC : Int32} {fi fo fw : Nat → Int32} {fe : Nat → UInt64} {ft fr fp fl : Nat → Int32} {ff : Nat → UInt64} {n : Nat} (hn : 3 ≤ n ∧ n ≤ 6) {inf : Nat → Int32} (hI : ag1 n fi inf) {out : Nat → Int32} (hO : ag1 n fo out) {T : Nat → Nat} (hT : ∀ j : Nat, j < 6 → ft j = nI (T j) ∧ T j < 64) {op : Nat → Nat → Bool} (hT2 : ∀ i j : Nat, i < n → j < n → (T i).testBit j = op i j)  : Met l yX0_isPossible wsX0_isPossible rX0_isPossible (va_Pc [.ref (q 0)] (wPre D (tys2 cI cD) (cW q cI cD (nI n) rC fi fo fw fe ft fr fp fl ff))) (vp_Si (fun r => r = bI (psb n op inf out))) 0 0 (fun _ => False) := by
  refine met_intro (cc := cX0_isPossible) (maxL := 1) (ret := (some .boolean)) (own := RX0) (by decide) rfl rfl (Nat.le_of_ble_eq_true rfl) ?_
  intro pp ee ss mm args below meth cd Q ls hQ S hr hlocks hv hB hl
  obtain ⟨hx, hb, hml, hown, hts⟩ := id S
  obtain ⟨hP, hK⟩ := hB
  have hl : lv_has ls 1 [(0, .ref (q 0))] := hl
  refine lv_aload_n hx hb dX0_isPossible_0 rfl (lv_at hl 0 rfl) ?_
  refine vp_callSi (W.runV (As := []) (rest := []) S (c_X0_imbalance hn hI hO) (cwV 0 hts gX0_isPossible_X0_imbalance rfl rfl rfl hdX0_imbalance ⟨Nat.le_of_ble_eq_true rfl, Nat.le_of_ble_eq_true rfl⟩) (preV hK hP rfl rfl) rfl rfl hl.1 rfl (lv_room (Nat.le_of_ble_eq_true rfl)) dX0_isPossible_1 ⟨Nat.zero_le _, Nat.zero_le _⟩) (fun r_1 er_1 => ?_)
  subst er_1
  refine lv_if_ne (tgt := 19) hx hb dX0_isPossible_4 (by decide) (fun h4_0 => ?_) (fun h4_0 => ?_)
  · refine lv_iconst (v := nI 0) hx hb dX0_isPossible_19 (by decide) ?_
    subst hQ
    exact W.zret hx hb hr (by decide) (fun t ht hWm => ⟨_, rfl, (by unfold psb; simp [h4_0]; decide), ht⟩) (fun q h => absurd h List.not_mem_nil) dX0_isPossible_20
  · refine lv_aload_n hx hb dX0_isPossible_7 rfl (lv_at hl 0 rfl) ?_
    refine vp_callSi (W.runV (As := []) (rest := []) S (c_X0_crowdedSet hn hI hO hT hT2) (cwV 0 hts gX0_isPossible_X0_crowdedSet rfl rfl rfl hdX0_crowdedSet ⟨Nat.le_of_ble_eq_true rfl, Nat.le_of_ble_eq_true rfl⟩) (preV hK hP rfl rfl) rfl rfl hl.1 rfl (lv_room (Nat.le_of_ble_eq_true rfl)) dX0_isPossible_8 ⟨Nat.zero_le _, Nat.zero_le _⟩) (fun r_2 er_2 => ?_)
    subst er_2
    refine lv_iconst (v := -1) hx hb dX0_isPossible_11 (by decide) ?_
    refine lv_icmp_ne (tgt := 19) hx hb dX0_isPossible_12 (by decide) (fun h12_1 => ?_) (fun h12_1 => ?_)
    · refine lv_iconst (v := nI 0) hx hb dX0_isPossible_19 (by decide) ?_
      subst hQ
      exact W.zret hx hb hr (by decide) (fun t ht hWm => ⟨_, rfl, (by unfold psb; simp [h4_0, h12_1]; decide), ht⟩) (fun q h => absurd h List.not_mem_nil) dX0_isPossible_20
    · refine lv_iconst (v := nI 1) hx hb dX0_isPossible_15 (by decide) ?_
      refine lv_goto (tgt := 20) hx hb dX0_isPossible_16 (by decide) ?_
      subst hQ
      exact W.zret hx hb hr (by decide) (fun t ht hWm => ⟨_, rfl, (by unfold psb; simp [h4_0, h12_1]; decide), ht⟩) (fun q h => absurd h List.not_mem_nil) dX0_isPossible_20
