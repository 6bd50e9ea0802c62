abbrev rX0_estimate : Room := { frames := 1, cells := 0, slots := 0, locals := 21 }
theorem hdX0_estimate : yX0_estimate.cls = RX0 ∧ yX0_estimate.cls ≠ "java/lang/invoke/MethodHandle" ∧ yX0_estimate.cls ≠ "java/lang/invoke/VarHandle" ∧ (parseMethodDescriptor yX0_estimate.desc).map (fun d => d.parameters.length) = some 2 := by decide +kernel
set_option maxHeartbeats 4000000 in
set_option maxRecDepth 100000 in
theorem c_X0_estimate {l : Launch} {D : va_G} {q : Nat → Nat} {cI cD : ClassId} {rC : Int32} {fi fo fw : Nat → Int32} {fe : Nat → UInt64} {ft fr fp fl : Nat → Int32} {ff : Nat → UInt64} {n : Nat} (hn : 3 ≤ n ∧ n ≤ 6) {e : Nat → Nat → UInt64} (hE : ag2 n fe e) {i k : Nat} (hi : i < n) (hk : k < n)  : Met l yX0_estimate wsX0_estimate rX0_estimate (va_Pc [.ref (q 0), .int (nI i), .int (nI k)] (wPre D (tys2 cI cD) (cW q cI cD (nI n) rC fi fo fw fe ft fr fp fl ff))) (vp_Sd (fun r => r = e i k)) 0 0 (fun _ => False) := by
  refine met_intro (cc := cX0_estimate) (maxL := 3) (ret := (some .double)) (own := RX0) (by decide) rfl rfl (Nat.le_of_ble_eq_true rfl) ?_
  intro pp ee ss mm args below meth cd Q ls hQ S hr hlocks hv hB hl
  obtain ⟨hx, hb, hml, hown, hts⟩ := id S
  obtain ⟨hP, hK⟩ := hB
  have in_w : ∀ w ∈ wsX00, w ∈ wsX0_estimate := by decide +kernel
  have fl_19 : Cond.fieldLink RX0 19 RX0 (TX0 3).2.1 (TX0 3).2.2.1 ∈ wsX0_estimate := by decide +kernel
  have hl : lv_has ls 3 [(0, .ref (q 0)), (1, .int (nI i)), (2, .int (nI k))] := hl
  refine lv_aload_n hx hb dX0_estimate_0 rfl (lv_at hl 0 rfl) ?_
  refine lv_iload_n hx hb dX0_estimate_1 rfl (lv_at hl 1 rfl) ?_
  refine va_csv (W.runV (As := [.int (nI i)]) (rest := []) S (c_X0_requireArm hn (i := i) (by omega)) (cwV 1 hts gX0_estimate_X0_requireArm rfl rfl rfl hdX0_requireArm ⟨Nat.le_of_ble_eq_true rfl, Nat.le_of_ble_eq_true rfl⟩) (preV hK hP rfl rfl) rfl rfl hl.1 rfl (lv_room (Nat.le_of_ble_eq_true rfl)) dX0_estimate_2 ⟨Nat.zero_le _, Nat.zero_le _⟩) (fun _ => ?_)
  refine lv_aload_n hx hb dX0_estimate_5 rfl (lv_at hl 0 rfl) ?_
  refine lv_iload_n hx hb dX0_estimate_6 rfl (lv_at hl 2 rfl) ?_
  refine va_csv (W.runV (As := [.int (nI k)]) (rest := []) S (c_X0_requireArm hn (i := k) (by omega)) (cwV 1 hts gX0_estimate_X0_requireArm rfl rfl rfl hdX0_requireArm ⟨Nat.le_of_ble_eq_true rfl, Nat.le_of_ble_eq_true rfl⟩) (preV hK hP rfl rfl) rfl rfl hl.1 rfl (lv_room (Nat.le_of_ble_eq_true rfl)) dX0_estimate_7 ⟨Nat.zero_le _, Nat.zero_le _⟩) (fun _ => ?_)
  refine lv_aload_n hx hb dX0_estimate_10 rfl (lv_at hl 0 rfl) ?_
  refine w_getC (own := RX0) (v := .ref (q 4)) S in_w hK hP rfl 3 (by decide) fl_19 rfl rfl dX0_estimate_11 ?_
  refine lv_iload_n hx hb dX0_estimate_14 rfl (lv_at hl 1 rfl) ?_
  refine lv_iload_n hx hb dX0_estimate_15 rfl (lv_at hl 2 rfl) ?_
  refine vp_callSi (W.runS (As := [.int (nI i), .int (nI k)]) (rest := [.ref (q 4)]) S (c_X0_turn (i := i) (k := k)) (va_cwS 2 hts gX0_estimate_X0_turn rfl rfl rfl hdX0_turn ⟨Nat.le_of_ble_eq_true rfl, Nat.le_of_ble_eq_true rfl⟩) preS rfl rfl hl.1 rfl (lv_room (Nat.le_of_ble_eq_true rfl)) dX0_estimate_16 ⟨Nat.zero_le _, Nat.zero_le _⟩) (fun r_1 er_1 => ?_)
  subst er_1
  refine w_dald hx hb hK hP 4 1 rfl rfl (j := 6 * i + k) (v := e i k) (hE i k (by omega) (by omega)) (by omega) (by decide) dX0_estimate_19 ?_
  subst hQ
  exact W.dret hx hb hr (fun t ht hWm => ⟨_, rfl, rfl, ht⟩) (fun q h => absurd h List.not_mem_nil) dX0_estimate_20
abbrev rX0_sum : Room := { frames := 2, cells := 0, slots := 0, locals := 45 }
theorem hdX0_sum : yX0_sum.cls = RX0 ∧ yX0_sum.cls ≠ "java/lang/invoke/MethodHandle" ∧ yX0_sum.cls ≠ "java/lang/invoke/VarHandle" ∧ (parseMethodDescriptor yX0_sum.desc).map (fun d => d.parameters.length) = some 2 := by decide +kernel
set_option maxHeartbeats 4000000 in
set_option maxRecDepth 100000 in
theorem c_X0_sum {l : Launch} {D : va_G} {q : Nat → Nat} {cI cD : ClassId} {rC : Int32} {fi fo fw : Nat → Int32} {fe : Nat → UInt64} {ft fr fp fl : Nat → Int32} {ff : Nat → UInt64} {n : Nat} (hn : 3 ≤ n ∧ n ≤ 6) {e : Nat → Nat → UInt64} (hE : ag2 n fe e) {i : Nat} {cb : Bool} (hi : i < n) (ho : okR e n i ∧ okC e n i) : Met l yX0_sum wsX0_sum rX0_sum (va_Pc [.ref (q 0), .int (nI i), .int (bI cb)] (wPre D (tys2 cI cD) (cW q cI cD (nI n) rC fi fo fw fe ft fr fp fl ff))) (vp_Sd (fun r => r = if cb = true then colS e n i else rowS e n i)) 0 0 (fun _ => False) := by
  refine met_intro (cc := cX0_sum) (maxL := 3) (ret := (some .double)) (own := RX0) (by decide) rfl rfl (Nat.le_of_ble_eq_true rfl) ?_
  intro pp ee ss mm args below meth cd Q ls hQ S hr hlocks hv hB hl
  obtain ⟨hx, hb, hml, hown, hts⟩ := id S
  obtain ⟨hP, hK⟩ := hB
  have hl : lv_has ls 3 [(0, .ref (q 0)), (1, .int (nI i)), (2, .int (bI cb))] := hl
  refine lv_aload_n hx hb dX0_sum_0 rfl (lv_at hl 0 rfl) ?_
  refine lv_iload_n hx hb dX0_sum_1 rfl (lv_at hl 1 rfl) ?_
  refine va_csv (W.runV (As := [.int (nI i)]) (rest := []) S (c_X0_requireArm hn (i := i) (by omega)) (cwV 1 hts gX0_sum_X0_requireArm rfl rfl rfl hdX0_requireArm ⟨Nat.le_of_ble_eq_true rfl, Nat.le_of_ble_eq_true rfl⟩) (preV hK hP rfl rfl) rfl rfl hl.1 rfl (lv_room (Nat.le_of_ble_eq_true rfl)) dX0_sum_2 ⟨Nat.zero_le _, Nat.zero_le _⟩) (fun _ => ?_)
  refine lv_iload_n hx hb dX0_sum_5 rfl (lv_at hl 2 rfl) ?_
  refine w_ifBeq (tgt := 17) hx hb dX0_sum_6 (by decide) (fun h6_0 => ?_) (fun h6_0 => ?_)
  · refine lv_aload_n hx hb dX0_sum_17 rfl (lv_at hl 0 rfl) ?_
    refine lv_iload_n hx hb dX0_sum_18 rfl (lv_at hl 1 rfl) ?_
    refine vp_callSd (W.runV (As := [.int (nI i)]) (rest := []) S (c_X0_rowSum hn hE (i := i) (by omega) ho.1) (cwV 1 hts gX0_sum_X0_rowSum rfl rfl rfl hdX0_rowSum ⟨Nat.le_of_ble_eq_true rfl, Nat.le_of_ble_eq_true rfl⟩) (preV hK hP rfl rfl) rfl rfl hl.1 rfl (lv_room (Nat.le_of_ble_eq_true rfl)) dX0_sum_19 ⟨Nat.zero_le _, Nat.zero_le _⟩) (fun r_1 er_1 => ?_)
    subst er_1
    subst hQ
    exact W.dret hx hb hr (fun t ht hWm => ⟨_, rfl, (by rw [h6_0]; rfl), ht⟩) (fun q h => absurd h List.not_mem_nil) dX0_sum_22
  · refine lv_aload_n hx hb dX0_sum_9 rfl (lv_at hl 0 rfl) ?_
    refine lv_iload_n hx hb dX0_sum_10 rfl (lv_at hl 1 rfl) ?_
    refine vp_callSd (W.runV (As := [.int (nI i)]) (rest := []) S (c_X0_columnSum hn hE (i := i) (by omega) ho.2) (cwV 1 hts gX0_sum_X0_columnSum rfl rfl rfl hdX0_columnSum ⟨Nat.le_of_ble_eq_true rfl, Nat.le_of_ble_eq_true rfl⟩) (preV hK hP rfl rfl) rfl rfl hl.1 rfl (lv_room (Nat.le_of_ble_eq_true rfl)) dX0_sum_11 ⟨Nat.zero_le _, Nat.zero_le _⟩) (fun r_2 er_2 => ?_)
    subst er_2
    refine lv_goto (tgt := 22) hx hb dX0_sum_14 (by decide) ?_
    subst hQ
    exact W.dret hx hb hr (fun t ht hWm => ⟨_, rfl, (by rw [h6_0]; rfl), ht⟩) (fun q h => absurd h List.not_mem_nil) dX0_sum_22
abbrev rX0_share : Room := { frames := 2, cells := 0, slots := 0, locals := 45 }
theorem hdX0_share : yX0_share.cls = RX0 ∧ yX0_share.cls ≠ "java/lang/invoke/MethodHandle" ∧ yX0_share.cls ≠ "java/lang/invoke/VarHandle" ∧ (parseMethodDescriptor yX0_share.desc).map (fun d => d.parameters.length) = some 2 := by decide +kernel
set_option maxHeartbeats 4000000 in
set_option maxRecDepth 100000 in
theorem c_X0_share {l : Launch} {D : va_G} {q : Nat → Nat} {cI cD : ClassId} {rC : Int32} {fi fo fw : Nat → Int32} {fe : Nat → UInt64} {ft fr fp fl : Nat → Int32} {ff : Nat → UInt64} {n : Nat} (hn : 3 ≤ n ∧ n ≤ 6) {e : Nat → Nat → UInt64} (hE : ag2 n fe e) {i k : Nat} (hi : i < n) (hk : k < n) (ho : okR e n i) (hd : dgt (rowS e n i) FP.dconst0 = true → vf_n64 (FP.ddiv (e i k) (rowS e n i))) : Met l yX0_share wsX0_share rX0_share (va_Pc [.ref (q 0), .int (nI i), .int (nI k)] (wPre D (tys2 cI cD) (cW q cI cD (nI n) rC fi fo fw fe ft fr fp fl ff))) (vp_Sd (fun r => r = shr n e i k)) 0 0 (fun _ => False) := by
  refine met_intro (cc := cX0_share) (maxL := 5) (ret := (some .double)) (own := RX0) (by decide) rfl rfl (Nat.le_of_ble_eq_true rfl) ?_
  intro pp ee ss mm args below meth cd Q ls hQ S hr hlocks hv hB hl
  obtain ⟨hx, hb, hml, hown, hts⟩ := id S
  obtain ⟨hP, hK⟩ := hB
  have in_w : ∀ w ∈ wsX00, w ∈ wsX0_share := by decide +kernel
  have fl_19 : Cond.fieldLink RX0 19 RX0 (TX0 3).2.1 (TX0 3).2.2.1 ∈ wsX0_share := by decide +kernel
  have hl : lv_has ls 5 [(0, .ref (q 0)), (1, .int (nI i)), (2, .int (nI k))] := hl
  refine lv_aload_n hx hb dX0_share_0 rfl (lv_at hl 0 rfl) ?_
  refine lv_iload_n hx hb dX0_share_1 rfl (lv_at hl 1 rfl) ?_
  refine va_csv (W.runV (As := [.int (nI i)]) (rest := []) S (c_X0_requireArm hn (i := i) (by omega)) (cwV 1 hts gX0_share_X0_requireArm rfl rfl rfl hdX0_requireArm ⟨Nat.le_of_ble_eq_true rfl, Nat.le_of_ble_eq_true rfl⟩) (preV hK hP rfl rfl) rfl rfl hl.1 rfl (lv_room (Nat.le_of_ble_eq_true rfl)) dX0_share_2 ⟨Nat.zero_le _, Nat.zero_le _⟩) (fun _ => ?_)
  refine lv_aload_n hx hb dX0_share_5 rfl (lv_at hl 0 rfl) ?_
  refine lv_iload_n hx hb dX0_share_6 rfl (lv_at hl 2 rfl) ?_
  refine va_csv (W.runV (As := [.int (nI k)]) (rest := []) S (c_X0_requireArm hn (i := k) (by omega)) (cwV 1 hts gX0_share_X0_requireArm rfl rfl rfl hdX0_requireArm ⟨Nat.le_of_ble_eq_true rfl, Nat.le_of_ble_eq_true rfl⟩) (preV hK hP rfl rfl) rfl rfl hl.1 rfl (lv_room (Nat.le_of_ble_eq_true rfl)) dX0_share_7 ⟨Nat.zero_le _, Nat.zero_le _⟩) (fun _ => ?_)
  refine lv_aload_n hx hb dX0_share_10 rfl (lv_at hl 0 rfl) ?_
  refine lv_iload_n hx hb dX0_share_11 rfl (lv_at hl 1 rfl) ?_
  refine vp_callSd (W.runV (As := [.int (nI i)]) (rest := []) S (c_X0_rowSum hn hE (i := i) (by omega) ho) (cwV 1 hts gX0_share_X0_rowSum rfl rfl rfl hdX0_rowSum ⟨Nat.le_of_ble_eq_true rfl, Nat.le_of_ble_eq_true rfl⟩) (preV hK hP rfl rfl) rfl rfl hl.1 rfl (lv_room (Nat.le_of_ble_eq_true rfl)) dX0_share_12 ⟨Nat.zero_le _, Nat.zero_le _⟩) (fun r_1 er_1 => ?_)
  subst er_1
  refine lv_dstore_n (lv' := [(3, .double (rowS e n i)), (0, .ref (q 0)), (1, .int (nI i)), (2, .int (nI k))]) hx hb dX0_share_15 rfl hl (by decide) rfl (fun ls hl => ?_)
  refine lv_dload_n hx hb dX0_share_16 rfl (lv_at hl 0 rfl) ?_
  refine lv_dconst0 hx hb dX0_share_17 ?_
  refine w_dgt (tgt := 37) hx hb dX0_share_18 dX0_share_19 (by decide) (fun h18_0 => ?_) (fun h18_0 => ?_)
  · refine lv_dconst0 hx hb dX0_share_37 ?_
    subst hQ
    exact W.dret hx hb hr (fun t ht hWm => ⟨_, rfl, (by unfold shr; rw [h18_0]; rfl), ht⟩) (fun q h => absurd h List.not_mem_nil) dX0_share_38
  · refine lv_aload_n hx hb dX0_share_22 rfl (lv_at hl 1 rfl) ?_
    refine w_getC (own := RX0) (v := .ref (q 4)) S in_w hK hP rfl 3 (by decide) fl_19 rfl rfl dX0_share_23 ?_
    refine lv_iload_n hx hb dX0_share_26 rfl (lv_at hl 2 rfl) ?_
    refine lv_iload_n hx hb dX0_share_27 rfl (lv_at hl 3 rfl) ?_
    refine vp_callSi (W.runS (As := [.int (nI i), .int (nI k)]) (rest := [.ref (q 4)]) S (c_X0_turn (i := i) (k := k)) (va_cwS 2 hts gX0_share_X0_turn rfl rfl rfl hdX0_turn ⟨Nat.le_of_ble_eq_true rfl, Nat.le_of_ble_eq_true rfl⟩) preS rfl rfl hl.1 rfl (lv_room (Nat.le_of_ble_eq_true rfl)) dX0_share_28 ⟨Nat.zero_le _, Nat.zero_le _⟩) (fun r_2 er_2 => ?_)
    subst er_2
    refine w_dald hx hb hK hP 4 1 rfl rfl (j := 6 * i + k) (v := e i k) (hE i k (by omega) (by omega)) (by omega) (by decide) dX0_share_31 ?_
    refine lv_dload_n hx hb dX0_share_32 rfl (lv_at hl 0 rfl) ?_
    refine lv_ddiv hx hb dX0_share_33 (hd h18_0) ?_
    refine lv_goto (tgt := 38) hx hb dX0_share_34 (by decide) ?_
    subst hQ
    exact W.dret hx hb hr (fun t ht hWm => ⟨_, rfl, (by unfold shr; rw [h18_0]; rfl), ht⟩) (fun q h => absurd h List.not_mem_nil) dX0_share_38
abbrev rX0_crossRatio : Room := { frames := 1, cells := 0, slots := 0, locals := 21 }
theorem hdX0_crossRatio : yX0_crossRatio.cls = RX0 ∧ yX0_crossRatio.cls ≠ "java/lang/invoke/MethodHandle" ∧ yX0_crossRatio.cls ≠ "java/lang/invoke/VarHandle" ∧ (parseMethodDescriptor yX0_crossRatio.desc).map (fun d => d.parameters.length) = some 4 := by decide +kernel
set_option maxHeartbeats 4000000 in
set_option maxRecDepth 100000 in
theorem c_X0_crossRatio {l : Launch} {D : va_G} {q : Nat → Nat} {cI cD : ClassId} {rC : Int32} {fi fo fw : Nat → Int32} {fe : Nat → UInt64} {ft fr fp fl : Nat → Int32} {ff : Nat → UInt64} {n : Nat} (hn : 3 ≤ n ∧ n ≤ 6) {e : Nat → Nat → UInt64} (hE : ag2 n fe e) {a b c d : Nat} (ha : a < n) (hb' : b < n) (hc : c < n) (hd : d < n) (h1 : vf_n64 (FP.dmul (e a c) (e b d))) (h2 : vf_n64 (FP.dmul (e a d) (e b c))) (hs : dgt (FP.dmul (e a d) (e b c)) FP.dconst0 = true) (h3 : vf_n64 (FP.ddiv (FP.dmul (e a c) (e b d)) (FP.dmul (e a d) (e b c)))) : Met l yX0_crossRatio wsX0_crossRatio rX0_crossRatio (va_Pc [.ref (q 0), .int (nI a), .int (nI b), .int (nI c), .int (nI d)] (wPre D (tys2 cI cD) (cW q cI cD (nI n) rC fi fo fw fe ft fr fp fl ff))) (vp_Sd (fun r => r = FP.ddiv (FP.dmul (e a c) (e b d)) (FP.dmul (e a d) (e b c)))) 0 0 (fun _ => False) := by
  refine met_intro (cc := cX0_crossRatio) (maxL := 9) (ret := (some .double)) (own := RX0) (by decide) rfl rfl (Nat.le_of_ble_eq_true rfl) ?_
  intro pp ee ss mm args below meth cd Q ls hQ S hr hlocks hv hB hl
  obtain ⟨hx, hb, hml, hown, hts⟩ := id S
  obtain ⟨hP, hK⟩ := hB
  have in_w : ∀ w ∈ wsX00, w ∈ wsX0_crossRatio := by decide +kernel
  have fl_19 : Cond.fieldLink RX0 19 RX0 (TX0 3).2.1 (TX0 3).2.2.1 ∈ wsX0_crossRatio := by decide +kernel
  have hl : lv_has ls 9 [(0, .ref (q 0)), (1, .int (nI a)), (2, .int (nI b)), (3, .int (nI c)), (4, .int (nI d))] := hl
  refine lv_aload_n hx hb dX0_crossRatio_0 rfl (lv_at hl 0 rfl) ?_
  refine lv_iload_n hx hb dX0_crossRatio_1 rfl (lv_at hl 1 rfl) ?_
  refine va_csv (W.runV (As := [.int (nI a)]) (rest := []) S (c_X0_requireArm hn (i := a) (by omega)) (cwV 1 hts gX0_crossRatio_X0_requireArm rfl rfl rfl hdX0_requireArm ⟨Nat.le_of_ble_eq_true rfl, Nat.le_of_ble_eq_true rfl⟩) (preV hK hP rfl rfl) rfl rfl hl.1 rfl (lv_room (Nat.le_of_ble_eq_true rfl)) dX0_crossRatio_2 ⟨Nat.zero_le _, Nat.zero_le _⟩) (fun _ => ?_)
  refine lv_aload_n hx hb dX0_crossRatio_5 rfl (lv_at hl 0 rfl) ?_
  refine lv_iload_n hx hb dX0_crossRatio_6 rfl (lv_at hl 2 rfl) ?_
  refine va_csv (W.runV (As := [.int (nI b)]) (rest := []) S (c_X0_requireArm hn (i := b) (by omega)) (cwV 1 hts gX0_crossRatio_X0_requireArm rfl rfl rfl hdX0_requireArm ⟨Nat.le_of_ble_eq_true rfl, Nat.le_of_ble_eq_true rfl⟩) (preV hK hP rfl rfl) rfl rfl hl.1 rfl (lv_room (Nat.le_of_ble_eq_true rfl)) dX0_crossRatio_7 ⟨Nat.zero_le _, Nat.zero_le _⟩) (fun _ => ?_)
  refine lv_aload_n hx hb dX0_crossRatio_10 rfl (lv_at hl 0 rfl) ?_
  refine lv_iload_n hx hb dX0_crossRatio_11 rfl (lv_at hl 3 rfl) ?_
  refine va_csv (W.runV (As := [.int (nI c)]) (rest := []) S (c_X0_requireArm hn (i := c) (by omega)) (cwV 1 hts gX0_crossRatio_X0_requireArm rfl rfl rfl hdX0_requireArm ⟨Nat.le_of_ble_eq_true rfl, Nat.le_of_ble_eq_true rfl⟩) (preV hK hP rfl rfl) rfl rfl hl.1 rfl (lv_room (Nat.le_of_ble_eq_true rfl)) dX0_crossRatio_12 ⟨Nat.zero_le _, Nat.zero_le _⟩) (fun _ => ?_)
  refine lv_aload_n hx hb dX0_crossRatio_15 rfl (lv_at hl 0 rfl) ?_
  refine lv_iload hx hb dX0_crossRatio_16 (lv_at hl 4 rfl) ?_
  refine va_csv (W.runV (As := [.int (nI d)]) (rest := []) S (c_X0_requireArm hn (i := d) (by omega)) (cwV 1 hts gX0_crossRatio_X0_requireArm rfl rfl rfl hdX0_requireArm ⟨Nat.le_of_ble_eq_true rfl, Nat.le_of_ble_eq_true rfl⟩) (preV hK hP rfl rfl) rfl rfl hl.1 rfl (lv_room (Nat.le_of_ble_eq_true rfl)) dX0_crossRatio_18 ⟨Nat.zero_le _, Nat.zero_le _⟩) (fun _ => ?_)
  refine lv_aload_n hx hb dX0_crossRatio_21 rfl (lv_at hl 0 rfl) ?_
  refine w_getC (own := RX0) (v := .ref (q 4)) S in_w hK hP rfl 3 (by decide) fl_19 rfl rfl dX0_crossRatio_22 ?_
  refine lv_iload_n hx hb dX0_crossRatio_25 rfl (lv_at hl 1 rfl) ?_
  refine lv_iload_n hx hb dX0_crossRatio_26 rfl (lv_at hl 3 rfl) ?_
  refine vp_callSi (W.runS (As := [.int (nI a), .int (nI c)]) (rest := [.ref (q 4)]) S (c_X0_turn (i := a) (k := c)) (va_cwS 2 hts gX0_crossRatio_X0_turn rfl rfl rfl hdX0_turn ⟨Nat.le_of_ble_eq_true rfl, Nat.le_of_ble_eq_true rfl⟩) preS rfl rfl hl.1 rfl (lv_room (Nat.le_of_ble_eq_true rfl)) dX0_crossRatio_27 ⟨Nat.zero_le _, Nat.zero_le _⟩) (fun r_1 er_1 => ?_)
  subst er_1
  refine w_dald hx hb hK hP 4 1 rfl rfl (j := 6 * a + c) (v := e a c) (hE a c (by omega) (by omega)) (by omega) (by decide) dX0_crossRatio_30 ?_
  refine lv_aload_n hx hb dX0_crossRatio_31 rfl (lv_at hl 0 rfl) ?_
  refine w_getC (own := RX0) (v := .ref (q 4)) S in_w hK hP rfl 3 (by decide) fl_19 rfl rfl dX0_crossRatio_32 ?_
  refine lv_iload_n hx hb dX0_crossRatio_35 rfl (lv_at hl 2 rfl) ?_
  refine lv_iload hx hb dX0_crossRatio_36 (lv_at hl 4 rfl) ?_
  refine vp_callSi (W.runS (As := [.int (nI b), .int (nI d)]) (rest := [.ref (q 4), .double (e a c)]) S (c_X0_turn (i := b) (k := d)) (va_cwS 2 hts gX0_crossRatio_X0_turn rfl rfl rfl hdX0_turn ⟨Nat.le_of_ble_eq_true rfl, Nat.le_of_ble_eq_true rfl⟩) preS rfl rfl hl.1 rfl (lv_room (Nat.le_of_ble_eq_true rfl)) dX0_crossRatio_38 ⟨Nat.zero_le _, Nat.zero_le _⟩) (fun r_2 er_2 => ?_)
  subst er_2
  refine w_dald hx hb hK hP 4 1 rfl rfl (j := 6 * b + d) (v := e b d) (hE b d (by omega) (by omega)) (by omega) (by decide) dX0_crossRatio_41 ?_
  refine lv_dmul hx hb dX0_crossRatio_42 h1 ?_
  refine lv_dstore (lv' := [(5, .double (FP.dmul (e a c) (e b d))), (0, .ref (q 0)), (1, .int (nI a)), (2, .int (nI b)), (3, .int (nI c)), (4, .int (nI d))]) hx hb dX0_crossRatio_43 hl (by decide) rfl (fun ls hl => ?_)
  refine lv_aload_n hx hb dX0_crossRatio_45 rfl (lv_at hl 1 rfl) ?_
  refine w_getC (own := RX0) (v := .ref (q 4)) S in_w hK hP rfl 3 (by decide) fl_19 rfl rfl dX0_crossRatio_46 ?_
  refine lv_iload_n hx hb dX0_crossRatio_49 rfl (lv_at hl 2 rfl) ?_
  refine lv_iload hx hb dX0_crossRatio_50 (lv_at hl 5 rfl) ?_
  refine vp_callSi (W.runS (As := [.int (nI a), .int (nI d)]) (rest := [.ref (q 4)]) S (c_X0_turn (i := a) (k := d)) (va_cwS 2 hts gX0_crossRatio_X0_turn rfl rfl rfl hdX0_turn ⟨Nat.le_of_ble_eq_true rfl, Nat.le_of_ble_eq_true rfl⟩) preS rfl rfl hl.1 rfl (lv_room (Nat.le_of_ble_eq_true rfl)) dX0_crossRatio_52 ⟨Nat.zero_le _, Nat.zero_le _⟩) (fun r_3 er_3 => ?_)
  subst er_3
  refine w_dald hx hb hK hP 4 1 rfl rfl (j := 6 * a + d) (v := e a d) (hE a d (by omega) (by omega)) (by omega) (by decide) dX0_crossRatio_55 ?_
  refine lv_aload_n hx hb dX0_crossRatio_56 rfl (lv_at hl 1 rfl) ?_
  refine w_getC (own := RX0) (v := .ref (q 4)) S in_w hK hP rfl 3 (by decide) fl_19 rfl rfl dX0_crossRatio_57 ?_
  refine lv_iload_n hx hb dX0_crossRatio_60 rfl (lv_at hl 3 rfl) ?_
  refine lv_iload_n hx hb dX0_crossRatio_61 rfl (lv_at hl 4 rfl) ?_
  refine vp_callSi (W.runS (As := [.int (nI b), .int (nI c)]) (rest := [.ref (q 4), .double (e a d)]) S (c_X0_turn (i := b) (k := c)) (va_cwS 2 hts gX0_crossRatio_X0_turn rfl rfl rfl hdX0_turn ⟨Nat.le_of_ble_eq_true rfl, Nat.le_of_ble_eq_true rfl⟩) preS rfl rfl hl.1 rfl (lv_room (Nat.le_of_ble_eq_true rfl)) dX0_crossRatio_62 ⟨Nat.zero_le _, Nat.zero_le _⟩) (fun r_4 er_4 => ?_)
  subst er_4
  refine w_dald hx hb hK hP 4 1 rfl rfl (j := 6 * b + c) (v := e b c) (hE b c (by omega) (by omega)) (by omega) (by decide) dX0_crossRatio_65 ?_
  refine lv_dmul hx hb dX0_crossRatio_66 h2 ?_
  refine lv_dstore (lv' := [(7, .double (FP.dmul (e a d) (e b c))), (5, .double (FP.dmul (e a c) (e b d))), (0, .ref (q 0)), (1, .int (nI a)), (2, .int (nI b)), (3, .int (nI c)), (4, .int (nI d))]) hx hb dX0_crossRatio_67 hl (by decide) rfl (fun ls hl => ?_)
  refine lv_dload hx hb dX0_crossRatio_69 (lv_at hl 0 rfl) ?_
  refine lv_dconst0 hx hb dX0_crossRatio_71 ?_
  refine w_dgtT (tgt := 86) hx hb dX0_crossRatio_72 dX0_crossRatio_73 (by decide) (fun h72_0 => ?_) (fun h72_0 => absurd (hs) (by rw [h72_0]; decide))
  refine lv_dload hx hb dX0_crossRatio_86 (lv_at hl 1 rfl) ?_
  refine lv_dload hx hb dX0_crossRatio_88 (lv_at hl 0 rfl) ?_
  refine lv_ddiv hx hb dX0_crossRatio_90 h3 ?_
  subst hQ
  exact W.dret hx hb hr (fun t ht hWm => ⟨_, rfl, rfl, ht⟩) (fun q h => absurd h List.not_mem_nil) dX0_crossRatio_91
abbrev rX0_rounded : Room := { frames := 5, cells := 0, slots := 0, locals := 121 }
theorem hdX0_rounded : yX0_rounded.cls = RX0 ∧ yX0_rounded.cls ≠ "java/lang/invoke/MethodHandle" ∧ yX0_rounded.cls ≠ "java/lang/invoke/VarHandle" ∧ (parseMethodDescriptor yX0_rounded.desc).map (fun d => d.parameters.length) = some 2 := by decide +kernel
set_option maxHeartbeats 4000000 in
set_option maxRecDepth 100000 in
theorem c_X0_rounded {l : Launch} {D : va_G} {q : Nat → Nat} {cI cD : ClassId} {rC : Int32} {fi fo fw : Nat → Int32} {fe : Nat → UInt64} {ft fr fp fl : Nat → Int32} {ff : Nat → UInt64} {n : Nat} (hn : 3 ≤ n ∧ n ≤ 6) {inf : Nat → Int32} (hI : ag1 n fi inf) {e : Nat → Nat → UInt64} (hE : ag2 n fe e) {T : Nat → Nat} (hT : ∀ j : Nat, j < 6 → ft j = nI (T j) ∧ T j < 64) {rt : Nat → Nat → Int32} (hR : ag2 n fr rt) {fs : Nat → UInt64} (hF : ag1 n ff fs) {op : Nat → Nat → Bool} (hT2 : ∀ i j : Nat, i < n → j < n → (T i).testBit j = op i j) {i k : Nat} (hi : i < n) (hk : k < n) (ho : okX n inf e i) (hq : qD q) : Met l yX0_rounded wsX0_rounded rX0_rounded (va_Pc [.ref (q 0), .int (nI i), .int (nI k)] (wPre D (tys2 cI cD) (cW q cI cD (nI n) rC fi fo fw fe ft fr fp fl ff))) (va_Qi (fun r (u : (Nat → Int32) × (Nat → UInt64)) => r = (rrow op n inf e i (rt, fs)).1 i k) (fun u t => va_P D cls2 (cW q cI cD (nI n) rC fi fo fw fe ft u.1 fp fl u.2) t.heap) (qA q)) 0 0 (qA q) := by
  refine met_intro (cc := cX0_rounded) (maxL := 3) (ret := (some .int)) (own := RX0) (by decide) rfl rfl (Nat.le_of_ble_eq_true rfl) ?_
  intro pp ee ss mm args below meth cd Q ls hQ S hr hlocks hv hB hl
  obtain ⟨hx, hb, hml, hown, hts⟩ := id S
  obtain ⟨hP, hK⟩ := hB
  have in_w : ∀ w ∈ wsX00, w ∈ wsX0_rounded := by decide +kernel
  have fl_26 : Cond.fieldLink RX0 26 RX0 (TX0 5).2.1 (TX0 5).2.2.1 ∈ wsX0_rounded := by decide +kernel
  have hS : va_S (qA q) ss.heap ss.heap [] := va_S.rf
  generalize hHg : ss.heap = H at hP
  have hS : va_S (qA q) ss.heap H [] := by rw [← hHg]; exact hS
  suffices hgo : ∀ locs : List Loc, va_S (qA q) ss.heap H locs → W pp l ee rX0_rounded ss mm args below meth cd H locs 0 0 Q (F0 mm 0 ls []) by
    first | exact hgo [] hS | (rw [hHg]; exact hgo [] hS)
  clear hS
  intro locs hS
  have hl : lv_has ls 3 [(0, .ref (q 0)), (1, .int (nI i)), (2, .int (nI k))] := hl
  refine lv_aload_n hx hb dX0_rounded_0 rfl (lv_at hl 0 rfl) ?_
  refine lv_iload_n hx hb dX0_rounded_1 rfl (lv_at hl 1 rfl) ?_
  refine va_csv (W.runV (As := [.int (nI i)]) (rest := []) S (c_X0_requireArm hn (i := i) (by omega)) (cwV 1 hts gX0_rounded_X0_requireArm rfl rfl rfl hdX0_requireArm ⟨Nat.le_of_ble_eq_true rfl, Nat.le_of_ble_eq_true rfl⟩) (preV hK hP rfl rfl) rfl rfl hl.1 rfl (lv_room (Nat.le_of_ble_eq_true rfl)) dX0_rounded_2 ⟨Nat.zero_le _, Nat.zero_le _⟩) (fun _ => ?_)
  refine lv_aload_n hx hb dX0_rounded_5 rfl (lv_at hl 0 rfl) ?_
  refine lv_iload_n hx hb dX0_rounded_6 rfl (lv_at hl 2 rfl) ?_
  refine va_csv (W.runV (As := [.int (nI k)]) (rest := []) S (c_X0_requireArm hn (i := k) (by omega)) (cwV 1 hts gX0_rounded_X0_requireArm rfl rfl rfl hdX0_requireArm ⟨Nat.le_of_ble_eq_true rfl, Nat.le_of_ble_eq_true rfl⟩) (preV hK hP rfl rfl) rfl rfl hl.1 rfl (lv_room (Nat.le_of_ble_eq_true rfl)) dX0_rounded_7 ⟨Nat.zero_le _, Nat.zero_le _⟩) (fun _ => ?_)
  refine lv_aload_n hx hb dX0_rounded_10 rfl (lv_at hl 0 rfl) ?_
  refine lv_iload_n hx hb dX0_rounded_11 rfl (lv_at hl 1 rfl) ?_
  refine va_callv (va_runV (As := [.int (nI i)]) (rest := []) S (c_X0_roundRow hn hI hE hT hR hF hT2 (i := i) (by omega) ho hq) (cwV 1 hts gX0_rounded_X0_roundRow rfl rfl rfl hdX0_roundRow ⟨Nat.le_of_ble_eq_true rfl, Nat.le_of_ble_eq_true rfl⟩) (preV hK hP rfl rfl) rfl rfl hl.1 rfl (lv_room (Nat.le_of_ble_eq_true rfl)) dX0_rounded_12 ⟨Nat.zero_le _, Nat.zero_le _⟩) hS (fun _ _ h => h) (fun _ h => h) (fun u_2 t H locs ht hvm hw_3 hB hz1 hk1 hS => ?_)
  replace hB : va_P D cls2 _ t.heap := hB
  rw [ht] at hB
  have hP : va_P D cls2 (cW q cI cD (nI n) rC fi fo fw fe ft u_2.1 fp fl u_2.2) H := hB
  refine lv_aload_n hx hb dX0_rounded_15 rfl (lv_at hl 0 rfl) ?_
  refine w_getC (own := RX0) (v := .ref (q 6)) S in_w hK hP rfl 5 (by decide) fl_26 rfl rfl dX0_rounded_16 ?_
  refine lv_iload_n hx hb dX0_rounded_19 rfl (lv_at hl 1 rfl) ?_
  refine lv_iload_n hx hb dX0_rounded_20 rfl (lv_at hl 2 rfl) ?_
  refine vp_callSi (W.runS (As := [.int (nI i), .int (nI k)]) (rest := [.ref (q 6)]) S (c_X0_turn (i := i) (k := k)) (va_cwS 2 hts gX0_rounded_X0_turn rfl rfl rfl hdX0_turn ⟨Nat.le_of_ble_eq_true rfl, Nat.le_of_ble_eq_true rfl⟩) preS rfl rfl hl.1 rfl (lv_room (Nat.le_of_ble_eq_true rfl)) dX0_rounded_21 ⟨Nat.zero_le _, Nat.zero_le _⟩) (fun r_4 er_4 => ?_)
  subst er_4
  refine w_iald hx hb hK hP 6 0 rfl rfl (j := 6 * i + k) (v := ((rrow op n inf e i (rt, fs)).1) i k) (hw_3.1 i k (by omega) (by omega)) (by omega) (by decide) dX0_rounded_24 ?_
  subst hQ
  exact W.iret hx hb hr (fun t ht hWm => ⟨⟨_, (u_2.1, u_2.2), rfl, rfl, (show va_P D cls2 _ t.heap from by rw [ht]; exact hP)⟩, hS.F ht⟩) hS.2.2 dX0_rounded_25
abbrev rX0_possible : Room := { frames := 6, cells := 0, slots := 0, locals := 135 }
theorem hdX0_possible : yX0_possible.cls = RX0 ∧ yX0_possible.cls ≠ "java/lang/invoke/MethodHandle" ∧ yX0_possible.cls ≠ "java/lang/invoke/VarHandle" ∧ (parseMethodDescriptor yX0_possible.desc).map (fun d => d.parameters.length) = some 2 := by decide +kernel
set_option maxHeartbeats 4000000 in
set_option maxRecDepth 100000 in
theorem c_X0_possible {l : Launch} {D : va_G} {q : Nat → Nat} {cI cD : ClassId} {rC : Int32} {fi fo fw : Nat → Int32} {fe : Nat → UInt64} {ft fr fp fl : Nat → Int32} {ff : Nat → UInt64} {n : Nat} (hn : 3 ≤ n ∧ n ≤ 6) {inf : Nat → Int32} (hI : ag1 n fi inf) {out : Nat → Int32} (hO : ag1 n fo out) {T : Nat → Nat} (hT : ∀ j : Nat, j < 6 → ft j = nI (T j) ∧ T j < 64) {pt : Nat → Nat → Int32} (hp : ag2 n fp pt) {op : Nat → Nat → Bool} (hT2 : ∀ i j : Nat, i < n → j < n → (T i).testBit j = op i j) {i k : Nat} (hi : i < n) (hk : k < n)  (hq : qD q) : Met l yX0_possible wsX0_possible rX0_possible (va_Pc [.ref (q 0), .int (nI i), .int (nI k)] (wPre D (tys2 cI cD) (cW q cI cD (nI n) rC fi fo fw fe ft fr fp fl ff))) (va_Qi (fun r (u : (Nat → Int32) × (Nat → Int32)) => r = (tbO n op inf (psb n op inf out) n (pt, out)).1 i k) (fun u t => va_P D cls2 (cW q cI cD (nI n) rC fi fo fw fe ft fr u.1 u.2 ff) t.heap) (qA q)) 0 0 (qA q) := by
  refine met_intro (cc := cX0_possible) (maxL := 3) (ret := (some .int)) (own := RX0) (by decide) rfl rfl (Nat.le_of_ble_eq_true rfl) ?_
  intro pp ee ss mm args below meth cd Q ls hQ S hr hlocks hv hB hl
  obtain ⟨hx, hb, hml, hown, hts⟩ := id S
  obtain ⟨hP, hK⟩ := hB
  have in_w : ∀ w ∈ wsX00, w ∈ wsX0_possible := by decide +kernel
  have fl_29 : Cond.fieldLink RX0 29 RX0 (TX0 6).2.1 (TX0 6).2.2.1 ∈ wsX0_possible := by decide +kernel
  have hS : va_S (qA q) ss.heap ss.heap [] := va_S.rf
  generalize hHg : ss.heap = H at hP
  have hS : va_S (qA q) ss.heap H [] := by rw [← hHg]; exact hS
  suffices hgo : ∀ locs : List Loc, va_S (qA q) ss.heap H locs → W pp l ee rX0_possible ss mm args below meth cd H locs 0 0 Q (F0 mm 0 ls []) by
    first | exact hgo [] hS | (rw [hHg]; exact hgo [] hS)
  clear hS
  intro locs hS
  have hl : lv_has ls 3 [(0, .ref (q 0)), (1, .int (nI i)), (2, .int (nI k))] := hl
  refine lv_aload_n hx hb dX0_possible_0 rfl (lv_at hl 0 rfl) ?_
  refine lv_iload_n hx hb dX0_possible_1 rfl (lv_at hl 1 rfl) ?_
  refine va_csv (W.runV (As := [.int (nI i)]) (rest := []) S (c_X0_requireArm hn (i := i) (by omega)) (cwV 1 hts gX0_possible_X0_requireArm rfl rfl rfl hdX0_requireArm ⟨Nat.le_of_ble_eq_true rfl, Nat.le_of_ble_eq_true rfl⟩) (preV hK hP rfl rfl) rfl rfl hl.1 rfl (lv_room (Nat.le_of_ble_eq_true rfl)) dX0_possible_2 ⟨Nat.zero_le _, Nat.zero_le _⟩) (fun _ => ?_)
  refine lv_aload_n hx hb dX0_possible_5 rfl (lv_at hl 0 rfl) ?_
  refine lv_iload_n hx hb dX0_possible_6 rfl (lv_at hl 2 rfl) ?_
  refine va_csv (W.runV (As := [.int (nI k)]) (rest := []) S (c_X0_requireArm hn (i := k) (by omega)) (cwV 1 hts gX0_possible_X0_requireArm rfl rfl rfl hdX0_requireArm ⟨Nat.le_of_ble_eq_true rfl, Nat.le_of_ble_eq_true rfl⟩) (preV hK hP rfl rfl) rfl rfl hl.1 rfl (lv_room (Nat.le_of_ble_eq_true rfl)) dX0_possible_7 ⟨Nat.zero_le _, Nat.zero_le _⟩) (fun _ => ?_)
  refine lv_aload_n hx hb dX0_possible_10 rfl (lv_at hl 0 rfl) ?_
  refine va_callv (va_runV (As := []) (rest := []) S (c_X0_fillPossibleTable hn hI hO hT hp hT2 hq) (cwV 0 hts gX0_possible_X0_fillPossibleTable rfl rfl rfl hdX0_fillPossibleTable ⟨Nat.le_of_ble_eq_true rfl, Nat.le_of_ble_eq_true rfl⟩) (preV hK hP rfl rfl) rfl rfl hl.1 rfl (lv_room (Nat.le_of_ble_eq_true rfl)) dX0_possible_11 ⟨Nat.zero_le _, Nat.zero_le _⟩) hS (fun _ _ h => h) (fun _ h => h) (fun u_2 t H locs ht hvm hw_3 hB hz1 hk1 hS => ?_)
  replace hB : va_P D cls2 _ t.heap := hB
  rw [ht] at hB
  have hP : va_P D cls2 (cW q cI cD (nI n) rC fi fo fw fe ft fr u_2.1 u_2.2 ff) H := hB
  refine lv_aload_n hx hb dX0_possible_14 rfl (lv_at hl 0 rfl) ?_
  refine w_getC (own := RX0) (v := .ref (q 7)) S in_w hK hP rfl 6 (by decide) fl_29 rfl rfl dX0_possible_15 ?_
  refine lv_iload_n hx hb dX0_possible_18 rfl (lv_at hl 1 rfl) ?_
  refine lv_iload_n hx hb dX0_possible_19 rfl (lv_at hl 2 rfl) ?_
  refine vp_callSi (W.runS (As := [.int (nI i), .int (nI k)]) (rest := [.ref (q 7)]) S (c_X0_turn (i := i) (k := k)) (va_cwS 2 hts gX0_possible_X0_turn rfl rfl rfl hdX0_turn ⟨Nat.le_of_ble_eq_true rfl, Nat.le_of_ble_eq_true rfl⟩) preS rfl rfl hl.1 rfl (lv_room (Nat.le_of_ble_eq_true rfl)) dX0_possible_20 ⟨Nat.zero_le _, Nat.zero_le _⟩) (fun r_4 er_4 => ?_)
  subst er_4
  refine w_iald hx hb hK hP 7 0 rfl rfl (j := 6 * i + k) (v := ((tbO n op inf (psb n op inf out) n (pt, out)).1) i k) (hw_3 i k (by omega) (by omega)) (by omega) (by decide) dX0_possible_23 ?_
  subst hQ
  exact W.iret hx hb hr (fun t ht hWm => ⟨⟨_, (u_2.1, u_2.2), rfl, rfl, (show va_P D cls2 _ t.heap from by rw [ht]; exact hP)⟩, hS.F ht⟩) hS.2.2 dX0_possible_24
