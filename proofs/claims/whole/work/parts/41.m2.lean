abbrev rX1_setArms : Room := { frames := 2, cells := 0, slots := 0, locals := 42 }
theorem hdX1_setArms : yX1_setArms.cls = RX1 ∧ yX1_setArms.cls ≠ "java/lang/invoke/MethodHandle" ∧ yX1_setArms.cls ≠ "java/lang/invoke/VarHandle" ∧ (parseMethodDescriptor yX1_setArms.desc).map (fun d => d.parameters.length) = some 1 := by decide +kernel
set_option maxHeartbeats 4000000 in
set_option maxRecDepth 100000 in
theorem c_X1_setArms {l : Launch} {D : va_G} {q : Nat → Nat} {cI cD : ClassId} {th rC : Int32} {hh : Int64} {fi fo fw : Nat → Int32} {fe : Nat → UInt64} {fr : Nat → Int32} {ff : Nat → UInt64} {fp fl fc : Nat → Int32} {n : Nat} {n0 : Nat} (hn : 3 ≤ n ∧ n ≤ 6)  (hq : qD q) : Met l yX1_setArms wsX1_setArms rX1_setArms (va_Pc [.ref (q 0), .int (nI n)] (wPre D (tys2 cI cD) (mW q cI cD th (nI n0) rC hh fi fo fw fe fr ff fp fl fc))) (va_Qi (fun r (u : (Nat → Int32) × (Nat → Int32) × (Nat → Int32) × (Nat → UInt64)) => r = nI n0 ∧ ag1 n u.1 (fun _ => nI 0) ∧ ag1 n u.2.1 (fun _ => nI 0) ∧ ag2 n u.2.2.1 w0 ∧ ag2 n u.2.2.2 (lay w0)) (fun u t => va_P D cls2 (mW q cI cD (nI 0) (nI n) (nI 0) hh u.1 u.2.1 u.2.2.1 u.2.2.2 fr ff fp fl fc) t.heap) (qA q)) 0 0 (qA q) := by
  refine met_intro (cc := cX1_setArms) (maxL := 3) (ret := (some .int)) (own := RX1) (by decide) rfl rfl (Nat.le_of_ble_eq_true rfl) ?_
  intro pp ee ss mm args below meth cd Q ls hQ S hr hlocks hv hB hl
  obtain ⟨hx, hb, hml, hown, hts⟩ := id S
  obtain ⟨hP, hK⟩ := hB
  have in_w : ∀ w ∈ wsX10, w ∈ wsX1_setArms := by decide +kernel
  have fl_7 : Cond.fieldLink RX1 7 RX1 (TX1 1).2.1 (TX1 1).2.2.1 ∈ wsX1_setArms := by decide +kernel
  have fl_45 : Cond.fieldLink RX1 45 RX1 (TX1 0).2.1 (TX1 0).2.2.1 ∈ wsX1_setArms := by decide +kernel
  have hS : va_S (qA q) ss.heap ss.heap [] := va_S.rf
  generalize hHg : ss.heap = H at hP
  have hS : va_S (qA q) ss.heap H [] := by rw [← hHg]; exact hS
  suffices hgo : ∀ locs : List Loc, va_S (qA q) ss.heap H locs → W pp l ee rX1_setArms ss mm args below meth cd H locs 0 0 Q (F0 mm 0 ls []) by
    first | exact hgo [] hS | (rw [hHg]; exact hgo [] hS)
  clear hS
  intro locs hS
  have hl : lv_has ls 3 [(0, .ref (q 0)), (1, .int (nI n))] := hl
  refine lv_aload_n hx hb dX1_setArms_0 rfl (lv_at hl 0 rfl) ?_
  refine lv_iload_n hx hb dX1_setArms_1 rfl (lv_at hl 1 rfl) ?_
  refine lv_iconst (v := nI 3) hx hb dX1_setArms_2 (by decide) ?_
  refine lv_bipush (v := nI 6) hx hb dX1_setArms_3 (by decide) ?_
  refine vp_callSi (W.runS (As := [.int (nI n), .int (nI 3), .int (nI 6)]) (rest := [.ref (q 0)]) S (c_X1_within (v := nI n) (a := nI 3) (b := nI 6)) (va_cwS 3 hts gX1_setArms_X1_within rfl rfl rfl hdX1_within ⟨Nat.le_of_ble_eq_true rfl, Nat.le_of_ble_eq_true rfl⟩) preS rfl rfl hl.1 rfl (lv_room (Nat.le_of_ble_eq_true rfl)) dX1_setArms_5 ⟨Nat.zero_le _, Nat.zero_le _⟩) (fun r_1 er_1 => ?_)
  subst er_1
  refine w_ifBeq (tgt := 15) hx hb dX1_setArms_8 (by decide) (fun h8_0 => absurd ((wth_nat hn.1 hn.2 (by decide))) (by rw [h8_0]; decide)) (fun h8_0 => ?_)
  refine lv_iconst (v := nI 0) hx hb dX1_setArms_11 (by decide) ?_
  refine lv_goto (tgt := 16) hx hb dX1_setArms_12 (by decide) ?_
  refine w_putM (v := .int (nI 0)) (ty := .int) S in_w hK hP (wD_of hq rfl) hS rfl 0 (by decide) fl_45 rfl (by decide +kernel) rfl rfl (Nat.le_of_ble_eq_true rfl) rfl dX1_setArms_16 (fun H locs hP hS => ?_)
  have hP : va_P D cls2 (mW q cI cD (nI 0) (nI n0) rC hh fi fo fw fe fr ff fp fl fc) H := hP
  refine lv_aload_n hx hb dX1_setArms_19 rfl (lv_at hl 0 rfl) ?_
  refine w_getM (own := RX1) (v := .int (nI 0)) S in_w hK hP rfl 0 (by decide) fl_45 rfl rfl dX1_setArms_20 ?_
  refine lv_if_le (tgt := 28) hx hb dX1_setArms_23 (by decide) (fun h23_1 => ?_) (fun h23_1 => absurd (by decide) h23_1)
  refine lv_aload_n hx hb dX1_setArms_28 rfl (lv_at hl 0 rfl) ?_
  refine w_getM (own := RX1) (v := .int (nI n0)) S in_w hK hP rfl 1 (by decide) fl_7 rfl rfl dX1_setArms_29 ?_
  refine lv_istore_n (lv' := [(2, .int (nI n0)), (0, .ref (q 0)), (1, .int (nI n))]) hx hb dX1_setArms_32 rfl hl (by decide) rfl (fun ls hl => ?_)
  refine lv_aload_n hx hb dX1_setArms_33 rfl (lv_at hl 1 rfl) ?_
  refine lv_iload_n hx hb dX1_setArms_34 rfl (lv_at hl 2 rfl) ?_
  refine w_putM (v := .int (nI n)) (ty := .int) S in_w hK hP (wD_of hq rfl) hS rfl 1 (by decide) fl_7 rfl (by decide +kernel) rfl rfl (Nat.le_of_ble_eq_true rfl) rfl dX1_setArms_35 (fun H locs hP hS => ?_)
  have hP : va_P D cls2 (mW q cI cD (nI 0) (nI n) rC hh fi fo fw fe fr ff fp fl fc) H := hP
  refine lv_aload_n hx hb dX1_setArms_38 rfl (lv_at hl 1 rfl) ?_
  refine va_callv (va_runV (As := []) (rest := []) S (c_X1_begin hn hq) (cwV 0 hts gX1_setArms_X1_begin rfl rfl rfl hdX1_begin ⟨Nat.le_of_ble_eq_true rfl, Nat.le_of_ble_eq_true rfl⟩) (preV hK hP rfl rfl) rfl rfl hl.1 rfl (lv_room (Nat.le_of_ble_eq_true rfl)) dX1_setArms_39 ⟨Nat.zero_le _, Nat.zero_le _⟩) hS (fun _ _ h => h) (fun _ h => h) (fun u_3 t H locs ht hvm hw_4 hB hz1 hk1 hS => ?_)
  replace hB : va_P D cls2 _ t.heap := hB
  rw [ht] at hB
  have hP : va_P D cls2 (mW q cI cD (nI 0) (nI n) (nI 0) hh u_3.1 u_3.2.1 u_3.2.2.1 u_3.2.2.2 fr ff fp fl fc) H := hB
  refine lv_iload_n hx hb dX1_setArms_42 rfl (lv_at hl 0 rfl) ?_
  subst hQ
  exact W.iret hx hb hr (fun t ht hWm => ⟨⟨_, u_3, rfl, ⟨rfl, hw_4⟩, (show va_P D cls2 _ t.heap from by rw [ht]; exact hP)⟩, hS.F ht⟩) hS.2.2 dX1_setArms_43
set_option maxHeartbeats 4000000 in
set_option maxRecDepth 100000 in
theorem c_X1_setArmsx {l : Launch} {D : va_G} {q : Nat → Nat} {cI cD : ClassId} {th rC : Int32} {hh : Int64} {fi fo fw : Nat → Int32} {fe : Nat → UInt64} {fr : Nat → Int32} {ff : Nat → UInt64} {fp fl fc : Nat → Int32} {n : Nat} (hn : 3 ≤ n ∧ n ≤ 6) {x : Int32} (hxx : wth x (nI 3) (nI 6) = false) (hq : qD q) : Met l yX1_setArms wsX1_setArms rX1_setArms (va_Pc [.ref (q 0), .int x] (wPre D (tys2 cI cD) (mW q cI cD th (nI n) rC hh fi fo fw fe fr ff fp fl fc))) (va_Qi (fun r (u : Unit) => True) (fun u t => va_P D cls2 (mW q cI cD (nI 1) (nI n) rC hh fi fo fw fe fr ff fp fl fc) t.heap) (qA q)) 0 0 (qA q) := by
  refine met_intro (cc := cX1_setArms) (maxL := 3) (ret := (some .int)) (own := RX1) (by decide) rfl rfl (Nat.le_of_ble_eq_true rfl) ?_
  intro pp ee ss mm args below meth cd Q ls hQ S hr hlocks hv hB hl
  obtain ⟨hx, hb, hml, hown, hts⟩ := id S
  obtain ⟨hP, hK⟩ := hB
  have in_w : ∀ w ∈ wsX10, w ∈ wsX1_setArms := by decide +kernel
  have fl_45 : Cond.fieldLink RX1 45 RX1 (TX1 0).2.1 (TX1 0).2.2.1 ∈ wsX1_setArms := by decide +kernel
  have hS : va_S (qA q) ss.heap ss.heap [] := va_S.rf
  generalize hHg : ss.heap = H at hP
  have hS : va_S (qA q) ss.heap H [] := by rw [← hHg]; exact hS
  suffices hgo : ∀ locs : List Loc, va_S (qA q) ss.heap H locs → W pp l ee rX1_setArms ss mm args below meth cd H locs 0 0 Q (F0 mm 0 ls []) by
    first | exact hgo [] hS | (rw [hHg]; exact hgo [] hS)
  clear hS
  intro locs hS
  have hl : lv_has ls 3 [(0, .ref (q 0)), (1, .int x)] := hl
  refine lv_aload_n hx hb dX1_setArms_0 rfl (lv_at hl 0 rfl) ?_
  refine lv_iload_n hx hb dX1_setArms_1 rfl (lv_at hl 1 rfl) ?_
  refine lv_iconst (v := nI 3) hx hb dX1_setArms_2 (by decide) ?_
  refine lv_bipush (v := nI 6) hx hb dX1_setArms_3 (by decide) ?_
  refine vp_callSi (W.runS (As := [.int x, .int (nI 3), .int (nI 6)]) (rest := [.ref (q 0)]) S (c_X1_within (v := x) (a := nI 3) (b := nI 6)) (va_cwS 3 hts gX1_setArms_X1_within rfl rfl rfl hdX1_within ⟨Nat.le_of_ble_eq_true rfl, Nat.le_of_ble_eq_true rfl⟩) preS rfl rfl hl.1 rfl (lv_room (Nat.le_of_ble_eq_true rfl)) dX1_setArms_5 ⟨Nat.zero_le _, Nat.zero_le _⟩) (fun r_1 er_1 => ?_)
  subst er_1
  refine w_ifBeq (tgt := 15) hx hb dX1_setArms_8 (by decide) (fun h8_0 => ?_) (fun h8_0 => absurd (hxx) (by rw [h8_0]; decide))
  refine lv_iconst (v := nI 1) hx hb dX1_setArms_15 (by decide) ?_
  refine w_putM (v := .int (nI 1)) (ty := .int) S in_w hK hP (wD_of hq rfl) hS rfl 0 (by decide) fl_45 rfl (by decide +kernel) rfl rfl (Nat.le_of_ble_eq_true rfl) rfl dX1_setArms_16 (fun H locs hP hS => ?_)
  have hP : va_P D cls2 (mW q cI cD (nI 1) (nI n) rC hh fi fo fw fe fr ff fp fl fc) H := hP
  refine lv_aload_n hx hb dX1_setArms_19 rfl (lv_at hl 0 rfl) ?_
  refine w_getM (own := RX1) (v := .int (nI 1)) S in_w hK hP rfl 0 (by decide) fl_45 rfl rfl dX1_setArms_20 ?_
  refine lv_if_le (tgt := 28) hx hb dX1_setArms_23 (by decide) (fun h23_1 => absurd h23_1 (by decide)) (fun h23_1 => ?_)
  refine lv_iconst (v := nI 0) hx hb dX1_setArms_26 (by decide) ?_
  subst hQ
  exact W.iret hx hb hr (fun t ht hWm => ⟨⟨_, (), rfl, trivial, (show va_P D cls2 _ t.heap from by rw [ht]; exact hP)⟩, hS.F ht⟩) hS.2.2 dX1_setArms_27
abbrev rX1_arms : Room := { frames := 0, cells := 0, slots := 0, locals := 0 }
theorem hdX1_arms : yX1_arms.cls = RX1 ∧ yX1_arms.cls ≠ "java/lang/invoke/MethodHandle" ∧ yX1_arms.cls ≠ "java/lang/invoke/VarHandle" ∧ (parseMethodDescriptor yX1_arms.desc).map (fun d => d.parameters.length) = some 0 := by decide +kernel
set_option maxHeartbeats 4000000 in
set_option maxRecDepth 100000 in
theorem c_X1_arms {l : Launch} {D : va_G} {q : Nat → Nat} {cI cD : ClassId} {th rC : Int32} {hh : Int64} {fi fo fw : Nat → Int32} {fe : Nat → UInt64} {fr : Nat → Int32} {ff : Nat → UInt64} {fp fl fc : Nat → Int32} {n : Nat}  (hq : qD q) : Met l yX1_arms wsX1_arms rX1_arms (va_Pc [.ref (q 0)] (wPre D (tys2 cI cD) (mW q cI cD th (nI n) rC hh fi fo fw fe fr ff fp fl fc))) (va_Qi (fun r (u : Unit) => r = nI n) (fun u t => va_P D cls2 (mW q cI cD (nI 0) (nI n) rC hh fi fo fw fe fr ff fp fl fc) t.heap) (qA q)) 0 0 (qA q) := by
  refine met_intro (cc := cX1_arms) (maxL := 1) (ret := (some .int)) (own := RX1) (by decide) rfl rfl (Nat.le_of_ble_eq_true rfl) ?_
  intro pp ee ss mm args below meth cd Q ls hQ S hr hlocks hv hB hl
  obtain ⟨hx, hb, hml, hown, hts⟩ := id S
  obtain ⟨hP, hK⟩ := hB
  have in_w : ∀ w ∈ wsX10, w ∈ wsX1_arms := by decide +kernel
  have fl_7 : Cond.fieldLink RX1 7 RX1 (TX1 1).2.1 (TX1 1).2.2.1 ∈ wsX1_arms := by decide +kernel
  have fl_45 : Cond.fieldLink RX1 45 RX1 (TX1 0).2.1 (TX1 0).2.2.1 ∈ wsX1_arms := by decide +kernel
  have hS : va_S (qA q) ss.heap ss.heap [] := va_S.rf
  generalize hHg : ss.heap = H at hP
  have hS : va_S (qA q) ss.heap H [] := by rw [← hHg]; exact hS
  suffices hgo : ∀ locs : List Loc, va_S (qA q) ss.heap H locs → W pp l ee rX1_arms ss mm args below meth cd H locs 0 0 Q (F0 mm 0 ls []) by
    first | exact hgo [] hS | (rw [hHg]; exact hgo [] hS)
  clear hS
  intro locs hS
  have hl : lv_has ls 1 [(0, .ref (q 0))] := hl
  refine lv_aload_n hx hb dX1_arms_0 rfl (lv_at hl 0 rfl) ?_
  refine lv_iconst (v := nI 0) hx hb dX1_arms_1 (by decide) ?_
  refine w_putM (v := .int (nI 0)) (ty := .int) S in_w hK hP (wD_of hq rfl) hS rfl 0 (by decide) fl_45 rfl (by decide +kernel) rfl rfl (Nat.le_of_ble_eq_true rfl) rfl dX1_arms_2 (fun H locs hP hS => ?_)
  have hP : va_P D cls2 (mW q cI cD (nI 0) (nI n) rC hh fi fo fw fe fr ff fp fl fc) H := hP
  refine lv_aload_n hx hb dX1_arms_5 rfl (lv_at hl 0 rfl) ?_
  refine w_getM (own := RX1) (v := .int (nI n)) S in_w hK hP rfl 1 (by decide) fl_7 rfl rfl dX1_arms_6 ?_
  subst hQ
  exact W.iret hx hb hr (fun t ht hWm => ⟨⟨_, (), rfl, rfl, (show va_P D cls2 _ t.heap from by rw [ht]; exact hP)⟩, hS.F ht⟩) hS.2.2 dX1_arms_9
abbrev rX1_rounds : Room := { frames := 0, cells := 0, slots := 0, locals := 0 }
theorem hdX1_rounds : yX1_rounds.cls = RX1 ∧ yX1_rounds.cls ≠ "java/lang/invoke/MethodHandle" ∧ yX1_rounds.cls ≠ "java/lang/invoke/VarHandle" ∧ (parseMethodDescriptor yX1_rounds.desc).map (fun d => d.parameters.length) = some 0 := by decide +kernel
set_option maxHeartbeats 4000000 in
set_option maxRecDepth 100000 in
theorem c_X1_rounds {l : Launch} {D : va_G} {q : Nat → Nat} {cI cD : ClassId} {th rC : Int32} {hh : Int64} {fi fo fw : Nat → Int32} {fe : Nat → UInt64} {fr : Nat → Int32} {ff : Nat → UInt64} {fp fl fc : Nat → Int32} {n : Nat}  (hq : qD q) : Met l yX1_rounds wsX1_rounds rX1_rounds (va_Pc [.ref (q 0)] (wPre D (tys2 cI cD) (mW q cI cD th (nI n) rC hh fi fo fw fe fr ff fp fl fc))) (va_Qi (fun r (u : Unit) => r = rC) (fun u t => va_P D cls2 (mW q cI cD (nI 0) (nI n) rC hh fi fo fw fe fr ff fp fl fc) t.heap) (qA q)) 0 0 (qA q) := by
  refine met_intro (cc := cX1_rounds) (maxL := 1) (ret := (some .int)) (own := RX1) (by decide) rfl rfl (Nat.le_of_ble_eq_true rfl) ?_
  intro pp ee ss mm args below meth cd Q ls hQ S hr hlocks hv hB hl
  obtain ⟨hx, hb, hml, hown, hts⟩ := id S
  obtain ⟨hP, hK⟩ := hB
  have in_w : ∀ w ∈ wsX10, w ∈ wsX1_rounds := by decide +kernel
  have fl_45 : Cond.fieldLink RX1 45 RX1 (TX1 0).2.1 (TX1 0).2.2.1 ∈ wsX1_rounds := by decide +kernel
  have fl_52 : Cond.fieldLink RX1 52 RX1 (TX1 6).2.1 (TX1 6).2.2.1 ∈ wsX1_rounds := by decide +kernel
  have hS : va_S (qA q) ss.heap ss.heap [] := va_S.rf
  generalize hHg : ss.heap = H at hP
  have hS : va_S (qA q) ss.heap H [] := by rw [← hHg]; exact hS
  suffices hgo : ∀ locs : List Loc, va_S (qA q) ss.heap H locs → W pp l ee rX1_rounds ss mm args below meth cd H locs 0 0 Q (F0 mm 0 ls []) by
    first | exact hgo [] hS | (rw [hHg]; exact hgo [] hS)
  clear hS
  intro locs hS
  have hl : lv_has ls 1 [(0, .ref (q 0))] := hl
  refine lv_aload_n hx hb dX1_rounds_0 rfl (lv_at hl 0 rfl) ?_
  refine lv_iconst (v := nI 0) hx hb dX1_rounds_1 (by decide) ?_
  refine w_putM (v := .int (nI 0)) (ty := .int) S in_w hK hP (wD_of hq rfl) hS rfl 0 (by decide) fl_45 rfl (by decide +kernel) rfl rfl (Nat.le_of_ble_eq_true rfl) rfl dX1_rounds_2 (fun H locs hP hS => ?_)
  have hP : va_P D cls2 (mW q cI cD (nI 0) (nI n) rC hh fi fo fw fe fr ff fp fl fc) H := hP
  refine lv_aload_n hx hb dX1_rounds_5 rfl (lv_at hl 0 rfl) ?_
  refine w_getM (own := RX1) (v := .int rC) S in_w hK hP rfl 6 (by decide) fl_52 rfl rfl dX1_rounds_6 ?_
  subst hQ
  exact W.iret hx hb hr (fun t ht hWm => ⟨⟨_, (), rfl, rfl, (show va_P D cls2 _ t.heap from by rw [ht]; exact hP)⟩, hS.F ht⟩) hS.2.2 dX1_rounds_9
abbrev rX1_setInflow : Room := { frames := 2, cells := 0, slots := 0, locals := 43 }
theorem hdX1_setInflow : yX1_setInflow.cls = RX1 ∧ yX1_setInflow.cls ≠ "java/lang/invoke/MethodHandle" ∧ yX1_setInflow.cls ≠ "java/lang/invoke/VarHandle" ∧ (parseMethodDescriptor yX1_setInflow.desc).map (fun d => d.parameters.length) = some 2 := by decide +kernel
set_option maxHeartbeats 4000000 in
set_option maxRecDepth 100000 in
theorem c_X1_setInflow {l : Launch} {D : va_G} {q : Nat → Nat} {cI cD : ClassId} {th rC : Int32} {hh : Int64} {fi fo fw : Nat → Int32} {fe : Nat → UInt64} {fr : Nat → Int32} {ff : Nat → UInt64} {fp fl fc : Nat → Int32} {n : Nat} (hn : 3 ≤ n ∧ n ≤ 6) {inf : Nat → Int32} (hI : ag1 n fi inf) {w : Nat → Nat → Int32} (hW : ag2 n fw w) {i : Nat} {x : Int32} (hi : i < n) (hxx : wth x (nI 0) (nI 9999) = true) (hq : qD q) : Met l yX1_setInflow wsX1_setInflow rX1_setInflow (va_Pc [.ref (q 0), .int (nI i), .int x] (wPre D (tys2 cI cD) (mW q cI cD th (nI n) rC hh fi fo fw fe fr ff fp fl fc))) (va_Qi (fun r (u : (Nat → Int32) × (Nat → UInt64)) => r = inf i ∧ ag1 n u.1 (upd inf i x) ∧ ag2 n u.2 (lay w)) (fun u t => va_P D cls2 (mW q cI cD (nI 0) (nI n) (nI 0) hh u.1 fo fw u.2 fr ff fp fl fc) t.heap) (qA q)) 0 0 (qA q) := by
  refine met_intro (cc := cX1_setInflow) (maxL := 4) (ret := (some .int)) (own := RX1) (by decide) rfl rfl (Nat.le_of_ble_eq_true rfl) ?_
  intro pp ee ss mm args below meth cd Q ls hQ S hr hlocks hv hB hl
  obtain ⟨hx, hb, hml, hown, hts⟩ := id S
  obtain ⟨hP, hK⟩ := hB
  have in_w : ∀ w ∈ wsX10, w ∈ wsX1_setInflow := by decide +kernel
  have fl_13 : Cond.fieldLink RX1 13 RX1 (TX1 2).2.1 (TX1 2).2.2.1 ∈ wsX1_setInflow := by decide +kernel
  have fl_45 : Cond.fieldLink RX1 45 RX1 (TX1 0).2.1 (TX1 0).2.2.1 ∈ wsX1_setInflow := by decide +kernel
  have hS : va_S (qA q) ss.heap ss.heap [] := va_S.rf
  generalize hHg : ss.heap = H at hP
  have hS : va_S (qA q) ss.heap H [] := by rw [← hHg]; exact hS
  suffices hgo : ∀ locs : List Loc, va_S (qA q) ss.heap H locs → W pp l ee rX1_setInflow ss mm args below meth cd H locs 0 0 Q (F0 mm 0 ls []) by
    first | exact hgo [] hS | (rw [hHg]; exact hgo [] hS)
  clear hS
  intro locs hS
  have hl : lv_has ls 4 [(0, .ref (q 0)), (1, .int (nI i)), (2, .int x)] := hl
  refine lv_aload_n hx hb dX1_setInflow_0 rfl (lv_at hl 0 rfl) ?_
  refine lv_aload_n hx hb dX1_setInflow_1 rfl (lv_at hl 0 rfl) ?_
  refine lv_iload_n hx hb dX1_setInflow_2 rfl (lv_at hl 1 rfl) ?_
  refine vp_callSi (W.runV (As := [.int (nI i)]) (rest := [.ref (q 0)]) S (c_X1_isArm (x := nI i)) (cwV 1 hts gX1_setInflow_X1_isArm rfl rfl rfl hdX1_isArm ⟨Nat.le_of_ble_eq_true rfl, Nat.le_of_ble_eq_true rfl⟩) (preV hK hP rfl rfl) rfl rfl hl.1 rfl (lv_room (Nat.le_of_ble_eq_true rfl)) dX1_setInflow_3 ⟨Nat.zero_le _, Nat.zero_le _⟩) (fun r_1 er_1 => ?_)
  subst er_1
  refine w_ifBne (tgt := 13) hx hb dX1_setInflow_6 (by decide) (fun h6_0 => ?_) (fun h6_0 => absurd ((armB_t hn hi)) (by rw [h6_0]; decide))
  refine lv_iload_n hx hb dX1_setInflow_13 rfl (lv_at hl 2 rfl) ?_
  refine lv_iconst (v := nI 0) hx hb dX1_setInflow_14 (by decide) ?_
  refine lv_sipush (v := nI 9999) hx hb dX1_setInflow_15 (by decide) ?_
  refine vp_callSi (W.runS (As := [.int x, .int (nI 0), .int (nI 9999)]) (rest := [.ref (q 0)]) S (c_X1_within (v := x) (a := nI 0) (b := nI 9999)) (va_cwS 3 hts gX1_setInflow_X1_within rfl rfl rfl hdX1_within ⟨Nat.le_of_ble_eq_true rfl, Nat.le_of_ble_eq_true rfl⟩) preS rfl rfl hl.1 rfl (lv_room (Nat.le_of_ble_eq_true rfl)) dX1_setInflow_18 ⟨Nat.zero_le _, Nat.zero_le _⟩) (fun r_2 er_2 => ?_)
  subst er_2
  refine w_ifBeq (tgt := 28) hx hb dX1_setInflow_21 (by decide) (fun h21_1 => absurd (hxx) (by rw [h21_1]; decide)) (fun h21_1 => ?_)
  refine lv_iconst (v := nI 0) hx hb dX1_setInflow_24 (by decide) ?_
  refine lv_goto (tgt := 29) hx hb dX1_setInflow_25 (by decide) ?_
  refine w_putM (v := .int (nI 0)) (ty := .int) S in_w hK hP (wD_of hq rfl) hS rfl 0 (by decide) fl_45 rfl (by decide +kernel) rfl rfl (Nat.le_of_ble_eq_true rfl) rfl dX1_setInflow_29 (fun H locs hP hS => ?_)
  have hP : va_P D cls2 (mW q cI cD (nI 0) (nI n) rC hh fi fo fw fe fr ff fp fl fc) H := hP
  refine lv_aload_n hx hb dX1_setInflow_32 rfl (lv_at hl 0 rfl) ?_
  refine w_getM (own := RX1) (v := .int (nI 0)) S in_w hK hP rfl 0 (by decide) fl_45 rfl rfl dX1_setInflow_33 ?_
  refine lv_if_le (tgt := 41) hx hb dX1_setInflow_36 (by decide) (fun h36_2 => ?_) (fun h36_2 => absurd (by decide) h36_2)
  refine lv_aload_n hx hb dX1_setInflow_41 rfl (lv_at hl 0 rfl) ?_
  refine w_getM (own := RX1) (v := .ref (q 1)) S in_w hK hP rfl 2 (by decide) fl_13 rfl rfl dX1_setInflow_42 ?_
  refine lv_iload_n hx hb dX1_setInflow_45 rfl (lv_at hl 1 rfl) ?_
  refine w_iald hx hb hK hP 1 0 rfl rfl (j := i) (v := inf i) (hI i (by omega)) (by omega) (by decide) dX1_setInflow_46 ?_
  refine lv_istore_n (lv' := [(3, .int (inf i)), (0, .ref (q 0)), (1, .int (nI i)), (2, .int x)]) hx hb dX1_setInflow_47 rfl hl (by decide) rfl (fun ls hl => ?_)
  refine lv_aload_n hx hb dX1_setInflow_48 rfl (lv_at hl 1 rfl) ?_
  refine w_getM (own := RX1) (v := .ref (q 1)) S in_w hK hP rfl 2 (by decide) fl_13 rfl rfl dX1_setInflow_49 ?_
  refine lv_iload_n hx hb dX1_setInflow_52 rfl (lv_at hl 2 rfl) ?_
  refine lv_iload_n hx hb dX1_setInflow_53 rfl (lv_at hl 3 rfl) ?_
  refine w_iast hx hb hK hP (wD_of hq rfl) hS 1 0 rfl rfl (j := i) (x := x) (by omega) (by decide) dX1_setInflow_54 (fun H locs hP _ hS => ?_)
  have hP : va_P D cls2 (mW q cI cD (nI 0) (nI n) rC hh (upd fi i x) fo fw fe fr ff fp fl fc) H := hP
  have g_4 : ag1 n (upd fi i x) (upd inf i x) := (ag1_upd hI i x)
  generalize (upd fi i x) = a_3 at hP g_4
  refine lv_aload_n hx hb dX1_setInflow_55 rfl (lv_at hl 1 rfl) ?_
  refine va_callv (va_runV (As := []) (rest := []) S (c_X1_layWeights hq) (cwV 0 hts gX1_setInflow_X1_layWeights rfl rfl rfl hdX1_layWeights ⟨Nat.le_of_ble_eq_true rfl, Nat.le_of_ble_eq_true rfl⟩) (preV hK hP rfl rfl) rfl rfl hl.1 rfl (lv_room (Nat.le_of_ble_eq_true rfl)) dX1_setInflow_56 ⟨Nat.zero_le _, Nat.zero_le _⟩) hS (fun _ _ h => h) (fun _ h => h) (fun u_6 t H locs ht hvm hw_7 hB hz1 hk1 hS => ?_)
  replace hB : va_P D cls2 _ t.heap := hB
  rw [ht] at hB
  subst hw_7
  have hP : va_P D cls2 (mW q cI cD (nI 0) (nI n) (nI 0) hh a_3 fo fw (lwR fw 36 fe) fr ff fp fl fc) H := hB
  refine lv_iload_n hx hb dX1_setInflow_59 rfl (lv_at hl 0 rfl) ?_
  subst hQ
  exact W.iret hx hb hr (fun t ht hWm => ⟨⟨_, (a_3, lwR fw 36 fe), rfl, ⟨rfl, g_4, (lwR_ag hn.2 hW)⟩, (show va_P D cls2 _ t.heap from by rw [ht]; exact hP)⟩, hS.F ht⟩) hS.2.2 dX1_setInflow_60
set_option maxHeartbeats 4000000 in
set_option maxRecDepth 100000 in
theorem c_X1_setInflowx1 {l : Launch} {D : va_G} {q : Nat → Nat} {cI cD : ClassId} {th rC : Int32} {hh : Int64} {fi fo fw : Nat → Int32} {fe : Nat → UInt64} {fr : Nat → Int32} {ff : Nat → UInt64} {fp fl fc : Nat → Int32} {n : Nat} (hn : 3 ≤ n ∧ n ≤ 6) {x y : Int32} (hy : armB n y = false) (hq : qD q) : Met l yX1_setInflow wsX1_setInflow rX1_setInflow (va_Pc [.ref (q 0), .int y, .int x] (wPre D (tys2 cI cD) (mW q cI cD th (nI n) rC hh fi fo fw fe fr ff fp fl fc))) (va_Qi (fun r (u : Unit) => True) (fun u t => va_P D cls2 (mW q cI cD (nI 1) (nI n) rC hh fi fo fw fe fr ff fp fl fc) t.heap) (qA q)) 0 0 (qA q) := by
  refine met_intro (cc := cX1_setInflow) (maxL := 4) (ret := (some .int)) (own := RX1) (by decide) rfl rfl (Nat.le_of_ble_eq_true rfl) ?_
  intro pp ee ss mm args below meth cd Q ls hQ S hr hlocks hv hB hl
  obtain ⟨hx, hb, hml, hown, hts⟩ := id S
  obtain ⟨hP, hK⟩ := hB
  have in_w : ∀ w ∈ wsX10, w ∈ wsX1_setInflow := by decide +kernel
  have fl_45 : Cond.fieldLink RX1 45 RX1 (TX1 0).2.1 (TX1 0).2.2.1 ∈ wsX1_setInflow := by decide +kernel
  have hS : va_S (qA q) ss.heap ss.heap [] := va_S.rf
  generalize hHg : ss.heap = H at hP
  have hS : va_S (qA q) ss.heap H [] := by rw [← hHg]; exact hS
  suffices hgo : ∀ locs : List Loc, va_S (qA q) ss.heap H locs → W pp l ee rX1_setInflow ss mm args below meth cd H locs 0 0 Q (F0 mm 0 ls []) by
    first | exact hgo [] hS | (rw [hHg]; exact hgo [] hS)
  clear hS
  intro locs hS
  have hl : lv_has ls 4 [(0, .ref (q 0)), (1, .int y), (2, .int x)] := hl
  refine lv_aload_n hx hb dX1_setInflow_0 rfl (lv_at hl 0 rfl) ?_
  refine lv_aload_n hx hb dX1_setInflow_1 rfl (lv_at hl 0 rfl) ?_
  refine lv_iload_n hx hb dX1_setInflow_2 rfl (lv_at hl 1 rfl) ?_
  refine vp_callSi (W.runV (As := [.int y]) (rest := [.ref (q 0)]) S (c_X1_isArm (x := y)) (cwV 1 hts gX1_setInflow_X1_isArm rfl rfl rfl hdX1_isArm ⟨Nat.le_of_ble_eq_true rfl, Nat.le_of_ble_eq_true rfl⟩) (preV hK hP rfl rfl) rfl rfl hl.1 rfl (lv_room (Nat.le_of_ble_eq_true rfl)) dX1_setInflow_3 ⟨Nat.zero_le _, Nat.zero_le _⟩) (fun r_1 er_1 => ?_)
  subst er_1
  refine w_ifBne (tgt := 13) hx hb dX1_setInflow_6 (by decide) (fun h6_0 => absurd (hy) (by rw [h6_0]; decide)) (fun h6_0 => ?_)
  refine lv_iconst (v := nI 1) hx hb dX1_setInflow_9 (by decide) ?_
  refine lv_goto (tgt := 29) hx hb dX1_setInflow_10 (by decide) ?_
  refine w_putM (v := .int (nI 1)) (ty := .int) S in_w hK hP (wD_of hq rfl) hS rfl 0 (by decide) fl_45 rfl (by decide +kernel) rfl rfl (Nat.le_of_ble_eq_true rfl) rfl dX1_setInflow_29 (fun H locs hP hS => ?_)
  have hP : va_P D cls2 (mW q cI cD (nI 1) (nI n) rC hh fi fo fw fe fr ff fp fl fc) H := hP
  refine lv_aload_n hx hb dX1_setInflow_32 rfl (lv_at hl 0 rfl) ?_
  refine w_getM (own := RX1) (v := .int (nI 1)) S in_w hK hP rfl 0 (by decide) fl_45 rfl rfl dX1_setInflow_33 ?_
  refine lv_if_le (tgt := 41) hx hb dX1_setInflow_36 (by decide) (fun h36_1 => absurd h36_1 (by decide)) (fun h36_1 => ?_)
  refine lv_iconst (v := nI 0) hx hb dX1_setInflow_39 (by decide) ?_
  subst hQ
  exact W.iret hx hb hr (fun t ht hWm => ⟨⟨_, (), rfl, trivial, (show va_P D cls2 _ t.heap from by rw [ht]; exact hP)⟩, hS.F ht⟩) hS.2.2 dX1_setInflow_40
set_option maxHeartbeats 4000000 in
set_option maxRecDepth 100000 in
theorem c_X1_setInflowx2 {l : Launch} {D : va_G} {q : Nat → Nat} {cI cD : ClassId} {th rC : Int32} {hh : Int64} {fi fo fw : Nat → Int32} {fe : Nat → UInt64} {fr : Nat → Int32} {ff : Nat → UInt64} {fp fl fc : Nat → Int32} {n : Nat} (hn : 3 ≤ n ∧ n ≤ 6) {i : Nat} {x : Int32} (hi : i < n) (hxx : wth x (nI 0) (nI 9999) = false) (hq : qD q) : Met l yX1_setInflow wsX1_setInflow rX1_setInflow (va_Pc [.ref (q 0), .int (nI i), .int x] (wPre D (tys2 cI cD) (mW q cI cD th (nI n) rC hh fi fo fw fe fr ff fp fl fc))) (va_Qi (fun r (u : Unit) => True) (fun u t => va_P D cls2 (mW q cI cD (nI 2) (nI n) rC hh fi fo fw fe fr ff fp fl fc) t.heap) (qA q)) 0 0 (qA q) := by
  refine met_intro (cc := cX1_setInflow) (maxL := 4) (ret := (some .int)) (own := RX1) (by decide) rfl rfl (Nat.le_of_ble_eq_true rfl) ?_
  intro pp ee ss mm args below meth cd Q ls hQ S hr hlocks hv hB hl
  obtain ⟨hx, hb, hml, hown, hts⟩ := id S
  obtain ⟨hP, hK⟩ := hB
  have in_w : ∀ w ∈ wsX10, w ∈ wsX1_setInflow := by decide +kernel
  have fl_45 : Cond.fieldLink RX1 45 RX1 (TX1 0).2.1 (TX1 0).2.2.1 ∈ wsX1_setInflow := by decide +kernel
  have hS : va_S (qA q) ss.heap ss.heap [] := va_S.rf
  generalize hHg : ss.heap = H at hP
  have hS : va_S (qA q) ss.heap H [] := by rw [← hHg]; exact hS
  suffices hgo : ∀ locs : List Loc, va_S (qA q) ss.heap H locs → W pp l ee rX1_setInflow ss mm args below meth cd H locs 0 0 Q (F0 mm 0 ls []) by
    first | exact hgo [] hS | (rw [hHg]; exact hgo [] hS)
  clear hS
  intro locs hS
  have hl : lv_has ls 4 [(0, .ref (q 0)), (1, .int (nI i)), (2, .int x)] := hl
  refine lv_aload_n hx hb dX1_setInflow_0 rfl (lv_at hl 0 rfl) ?_
  refine lv_aload_n hx hb dX1_setInflow_1 rfl (lv_at hl 0 rfl) ?_
  refine lv_iload_n hx hb dX1_setInflow_2 rfl (lv_at hl 1 rfl) ?_
  refine vp_callSi (W.runV (As := [.int (nI i)]) (rest := [.ref (q 0)]) S (c_X1_isArm (x := nI i)) (cwV 1 hts gX1_setInflow_X1_isArm rfl rfl rfl hdX1_isArm ⟨Nat.le_of_ble_eq_true rfl, Nat.le_of_ble_eq_true rfl⟩) (preV hK hP rfl rfl) rfl rfl hl.1 rfl (lv_room (Nat.le_of_ble_eq_true rfl)) dX1_setInflow_3 ⟨Nat.zero_le _, Nat.zero_le _⟩) (fun r_1 er_1 => ?_)
  subst er_1
  refine w_ifBne (tgt := 13) hx hb dX1_setInflow_6 (by decide) (fun h6_0 => ?_) (fun h6_0 => absurd ((armB_t hn hi)) (by rw [h6_0]; decide))
  refine lv_iload_n hx hb dX1_setInflow_13 rfl (lv_at hl 2 rfl) ?_
  refine lv_iconst (v := nI 0) hx hb dX1_setInflow_14 (by decide) ?_
  refine lv_sipush (v := nI 9999) hx hb dX1_setInflow_15 (by decide) ?_
  refine vp_callSi (W.runS (As := [.int x, .int (nI 0), .int (nI 9999)]) (rest := [.ref (q 0)]) S (c_X1_within (v := x) (a := nI 0) (b := nI 9999)) (va_cwS 3 hts gX1_setInflow_X1_within rfl rfl rfl hdX1_within ⟨Nat.le_of_ble_eq_true rfl, Nat.le_of_ble_eq_true rfl⟩) preS rfl rfl hl.1 rfl (lv_room (Nat.le_of_ble_eq_true rfl)) dX1_setInflow_18 ⟨Nat.zero_le _, Nat.zero_le _⟩) (fun r_2 er_2 => ?_)
  subst er_2
  refine w_ifBeq (tgt := 28) hx hb dX1_setInflow_21 (by decide) (fun h21_1 => ?_) (fun h21_1 => absurd (hxx) (by rw [h21_1]; decide))
  refine lv_iconst (v := nI 2) hx hb dX1_setInflow_28 (by decide) ?_
  refine w_putM (v := .int (nI 2)) (ty := .int) S in_w hK hP (wD_of hq rfl) hS rfl 0 (by decide) fl_45 rfl (by decide +kernel) rfl rfl (Nat.le_of_ble_eq_true rfl) rfl dX1_setInflow_29 (fun H locs hP hS => ?_)
  have hP : va_P D cls2 (mW q cI cD (nI 2) (nI n) rC hh fi fo fw fe fr ff fp fl fc) H := hP
  refine lv_aload_n hx hb dX1_setInflow_32 rfl (lv_at hl 0 rfl) ?_
  refine w_getM (own := RX1) (v := .int (nI 2)) S in_w hK hP rfl 0 (by decide) fl_45 rfl rfl dX1_setInflow_33 ?_
  refine lv_if_le (tgt := 41) hx hb dX1_setInflow_36 (by decide) (fun h36_2 => absurd h36_2 (by decide)) (fun h36_2 => ?_)
  refine lv_iconst (v := nI 0) hx hb dX1_setInflow_39 (by decide) ?_
  subst hQ
  exact W.iret hx hb hr (fun t ht hWm => ⟨⟨_, (), rfl, trivial, (show va_P D cls2 _ t.heap from by rw [ht]; exact hP)⟩, hS.F ht⟩) hS.2.2 dX1_setInflow_40
abbrev rX1_setOutflow : Room := { frames := 2, cells := 0, slots := 0, locals := 43 }
theorem hdX1_setOutflow : yX1_setOutflow.cls = RX1 ∧ yX1_setOutflow.cls ≠ "java/lang/invoke/MethodHandle" ∧ yX1_setOutflow.cls ≠ "java/lang/invoke/VarHandle" ∧ (parseMethodDescriptor yX1_setOutflow.desc).map (fun d => d.parameters.length) = some 2 := by decide +kernel
set_option maxHeartbeats 4000000 in
set_option maxRecDepth 100000 in
theorem c_X1_setOutflow {l : Launch} {D : va_G} {q : Nat → Nat} {cI cD : ClassId} {th rC : Int32} {hh : Int64} {fi fo fw : Nat → Int32} {fe : Nat → UInt64} {fr : Nat → Int32} {ff : Nat → UInt64} {fp fl fc : Nat → Int32} {n : Nat} (hn : 3 ≤ n ∧ n ≤ 6) {out : Nat → Int32} (hO : ag1 n fo out) {w : Nat → Nat → Int32} (hW : ag2 n fw w) {i : Nat} {x : Int32} (hi : i < n) (hxx : wth x (nI 0) (nI 9999) = true) (hq : qD q) : Met l yX1_setOutflow wsX1_setOutflow rX1_setOutflow (va_Pc [.ref (q 0), .int (nI i), .int x] (wPre D (tys2 cI cD) (mW q cI cD th (nI n) rC hh fi fo fw fe fr ff fp fl fc))) (va_Qi (fun r (u : (Nat → Int32) × (Nat → UInt64)) => r = out i ∧ ag1 n u.1 (upd out i x) ∧ ag2 n u.2 (lay w)) (fun u t => va_P D cls2 (mW q cI cD (nI 0) (nI n) (nI 0) hh fi u.1 fw u.2 fr ff fp fl fc) t.heap) (qA q)) 0 0 (qA q) := by
  refine met_intro (cc := cX1_setOutflow) (maxL := 4) (ret := (some .int)) (own := RX1) (by decide) rfl rfl (Nat.le_of_ble_eq_true rfl) ?_
  intro pp ee ss mm args below meth cd Q ls hQ S hr hlocks hv hB hl
  obtain ⟨hx, hb, hml, hown, hts⟩ := id S
  obtain ⟨hP, hK⟩ := hB
  have in_w : ∀ w ∈ wsX10, w ∈ wsX1_setOutflow := by decide +kernel
  have fl_17 : Cond.fieldLink RX1 17 RX1 (TX1 3).2.1 (TX1 3).2.2.1 ∈ wsX1_setOutflow := by decide +kernel
  have fl_45 : Cond.fieldLink RX1 45 RX1 (TX1 0).2.1 (TX1 0).2.2.1 ∈ wsX1_setOutflow := by decide +kernel
  have hS : va_S (qA q) ss.heap ss.heap [] := va_S.rf
  generalize hHg : ss.heap = H at hP
  have hS : va_S (qA q) ss.heap H [] := by rw [← hHg]; exact hS
  suffices hgo : ∀ locs : List Loc, va_S (qA q) ss.heap H locs → W pp l ee rX1_setOutflow ss mm args below meth cd H locs 0 0 Q (F0 mm 0 ls []) by
    first | exact hgo [] hS | (rw [hHg]; exact hgo [] hS)
  clear hS
  intro locs hS
  have hl : lv_has ls 4 [(0, .ref (q 0)), (1, .int (nI i)), (2, .int x)] := hl
  refine lv_aload_n hx hb dX1_setOutflow_0 rfl (lv_at hl 0 rfl) ?_
  refine lv_aload_n hx hb dX1_setOutflow_1 rfl (lv_at hl 0 rfl) ?_
  refine lv_iload_n hx hb dX1_setOutflow_2 rfl (lv_at hl 1 rfl) ?_
  refine vp_callSi (W.runV (As := [.int (nI i)]) (rest := [.ref (q 0)]) S (c_X1_isArm (x := nI i)) (cwV 1 hts gX1_setOutflow_X1_isArm rfl rfl rfl hdX1_isArm ⟨Nat.le_of_ble_eq_true rfl, Nat.le_of_ble_eq_true rfl⟩) (preV hK hP rfl rfl) rfl rfl hl.1 rfl (lv_room (Nat.le_of_ble_eq_true rfl)) dX1_setOutflow_3 ⟨Nat.zero_le _, Nat.zero_le _⟩) (fun r_1 er_1 => ?_)
  subst er_1
  refine w_ifBne (tgt := 13) hx hb dX1_setOutflow_6 (by decide) (fun h6_0 => ?_) (fun h6_0 => absurd ((armB_t hn hi)) (by rw [h6_0]; decide))
  refine lv_iload_n hx hb dX1_setOutflow_13 rfl (lv_at hl 2 rfl) ?_
  refine lv_iconst (v := nI 0) hx hb dX1_setOutflow_14 (by decide) ?_
  refine lv_sipush (v := nI 9999) hx hb dX1_setOutflow_15 (by decide) ?_
  refine vp_callSi (W.runS (As := [.int x, .int (nI 0), .int (nI 9999)]) (rest := [.ref (q 0)]) S (c_X1_within (v := x) (a := nI 0) (b := nI 9999)) (va_cwS 3 hts gX1_setOutflow_X1_within rfl rfl rfl hdX1_within ⟨Nat.le_of_ble_eq_true rfl, Nat.le_of_ble_eq_true rfl⟩) preS rfl rfl hl.1 rfl (lv_room (Nat.le_of_ble_eq_true rfl)) dX1_setOutflow_18 ⟨Nat.zero_le _, Nat.zero_le _⟩) (fun r_2 er_2 => ?_)
  subst er_2
  refine w_ifBeq (tgt := 28) hx hb dX1_setOutflow_21 (by decide) (fun h21_1 => absurd (hxx) (by rw [h21_1]; decide)) (fun h21_1 => ?_)
  refine lv_iconst (v := nI 0) hx hb dX1_setOutflow_24 (by decide) ?_
  refine lv_goto (tgt := 29) hx hb dX1_setOutflow_25 (by decide) ?_
  refine w_putM (v := .int (nI 0)) (ty := .int) S in_w hK hP (wD_of hq rfl) hS rfl 0 (by decide) fl_45 rfl (by decide +kernel) rfl rfl (Nat.le_of_ble_eq_true rfl) rfl dX1_setOutflow_29 (fun H locs hP hS => ?_)
  have hP : va_P D cls2 (mW q cI cD (nI 0) (nI n) rC hh fi fo fw fe fr ff fp fl fc) H := hP
  refine lv_aload_n hx hb dX1_setOutflow_32 rfl (lv_at hl 0 rfl) ?_
  refine w_getM (own := RX1) (v := .int (nI 0)) S in_w hK hP rfl 0 (by decide) fl_45 rfl rfl dX1_setOutflow_33 ?_
  refine lv_if_le (tgt := 41) hx hb dX1_setOutflow_36 (by decide) (fun h36_2 => ?_) (fun h36_2 => absurd (by decide) h36_2)
  refine lv_aload_n hx hb dX1_setOutflow_41 rfl (lv_at hl 0 rfl) ?_
  refine w_getM (own := RX1) (v := .ref (q 2)) S in_w hK hP rfl 3 (by decide) fl_17 rfl rfl dX1_setOutflow_42 ?_
  refine lv_iload_n hx hb dX1_setOutflow_45 rfl (lv_at hl 1 rfl) ?_
  refine w_iald hx hb hK hP 2 0 rfl rfl (j := i) (v := out i) (hO i (by omega)) (by omega) (by decide) dX1_setOutflow_46 ?_
  refine lv_istore_n (lv' := [(3, .int (out i)), (0, .ref (q 0)), (1, .int (nI i)), (2, .int x)]) hx hb dX1_setOutflow_47 rfl hl (by decide) rfl (fun ls hl => ?_)
  refine lv_aload_n hx hb dX1_setOutflow_48 rfl (lv_at hl 1 rfl) ?_
  refine w_getM (own := RX1) (v := .ref (q 2)) S in_w hK hP rfl 3 (by decide) fl_17 rfl rfl dX1_setOutflow_49 ?_
  refine lv_iload_n hx hb dX1_setOutflow_52 rfl (lv_at hl 2 rfl) ?_
  refine lv_iload_n hx hb dX1_setOutflow_53 rfl (lv_at hl 3 rfl) ?_
  refine w_iast hx hb hK hP (wD_of hq rfl) hS 2 0 rfl rfl (j := i) (x := x) (by omega) (by decide) dX1_setOutflow_54 (fun H locs hP _ hS => ?_)
  have hP : va_P D cls2 (mW q cI cD (nI 0) (nI n) rC hh fi (upd fo i x) fw fe fr ff fp fl fc) H := hP
  have g_4 : ag1 n (upd fo i x) (upd out i x) := (ag1_upd hO i x)
  generalize (upd fo i x) = a_3 at hP g_4
  refine lv_aload_n hx hb dX1_setOutflow_55 rfl (lv_at hl 1 rfl) ?_
  refine va_callv (va_runV (As := []) (rest := []) S (c_X1_layWeights hq) (cwV 0 hts gX1_setOutflow_X1_layWeights rfl rfl rfl hdX1_layWeights ⟨Nat.le_of_ble_eq_true rfl, Nat.le_of_ble_eq_true rfl⟩) (preV hK hP rfl rfl) rfl rfl hl.1 rfl (lv_room (Nat.le_of_ble_eq_true rfl)) dX1_setOutflow_56 ⟨Nat.zero_le _, Nat.zero_le _⟩) hS (fun _ _ h => h) (fun _ h => h) (fun u_6 t H locs ht hvm hw_7 hB hz1 hk1 hS => ?_)
  replace hB : va_P D cls2 _ t.heap := hB
  rw [ht] at hB
  subst hw_7
  have hP : va_P D cls2 (mW q cI cD (nI 0) (nI n) (nI 0) hh fi a_3 fw (lwR fw 36 fe) fr ff fp fl fc) H := hB
  refine lv_iload_n hx hb dX1_setOutflow_59 rfl (lv_at hl 0 rfl) ?_
  subst hQ
  exact W.iret hx hb hr (fun t ht hWm => ⟨⟨_, (a_3, lwR fw 36 fe), rfl, ⟨rfl, g_4, (lwR_ag hn.2 hW)⟩, (show va_P D cls2 _ t.heap from by rw [ht]; exact hP)⟩, hS.F ht⟩) hS.2.2 dX1_setOutflow_60
set_option maxHeartbeats 4000000 in
set_option maxRecDepth 100000 in
theorem c_X1_setOutflowx1 {l : Launch} {D : va_G} {q : Nat → Nat} {cI cD : ClassId} {th rC : Int32} {hh : Int64} {fi fo fw : Nat → Int32} {fe : Nat → UInt64} {fr : Nat → Int32} {ff : Nat → UInt64} {fp fl fc : Nat → Int32} {n : Nat} (hn : 3 ≤ n ∧ n ≤ 6) {x y : Int32} (hy : armB n y = false) (hq : qD q) : Met l yX1_setOutflow wsX1_setOutflow rX1_setOutflow (va_Pc [.ref (q 0), .int y, .int x] (wPre D (tys2 cI cD) (mW q cI cD th (nI n) rC hh fi fo fw fe fr ff fp fl fc))) (va_Qi (fun r (u : Unit) => True) (fun u t => va_P D cls2 (mW q cI cD (nI 1) (nI n) rC hh fi fo fw fe fr ff fp fl fc) t.heap) (qA q)) 0 0 (qA q) := by
  refine met_intro (cc := cX1_setOutflow) (maxL := 4) (ret := (some .int)) (own := RX1) (by decide) rfl rfl (Nat.le_of_ble_eq_true rfl) ?_
  intro pp ee ss mm args below meth cd Q ls hQ S hr hlocks hv hB hl
  obtain ⟨hx, hb, hml, hown, hts⟩ := id S
  obtain ⟨hP, hK⟩ := hB
  have in_w : ∀ w ∈ wsX10, w ∈ wsX1_setOutflow := by decide +kernel
  have fl_45 : Cond.fieldLink RX1 45 RX1 (TX1 0).2.1 (TX1 0).2.2.1 ∈ wsX1_setOutflow := by decide +kernel
  have hS : va_S (qA q) ss.heap ss.heap [] := va_S.rf
  generalize hHg : ss.heap = H at hP
  have hS : va_S (qA q) ss.heap H [] := by rw [← hHg]; exact hS
  suffices hgo : ∀ locs : List Loc, va_S (qA q) ss.heap H locs → W pp l ee rX1_setOutflow ss mm args below meth cd H locs 0 0 Q (F0 mm 0 ls []) by
    first | exact hgo [] hS | (rw [hHg]; exact hgo [] hS)
  clear hS
  intro locs hS
  have hl : lv_has ls 4 [(0, .ref (q 0)), (1, .int y), (2, .int x)] := hl
  refine lv_aload_n hx hb dX1_setOutflow_0 rfl (lv_at hl 0 rfl) ?_
  refine lv_aload_n hx hb dX1_setOutflow_1 rfl (lv_at hl 0 rfl) ?_
  refine lv_iload_n hx hb dX1_setOutflow_2 rfl (lv_at hl 1 rfl) ?_
  refine vp_callSi (W.runV (As := [.int y]) (rest := [.ref (q 0)]) S (c_X1_isArm (x := y)) (cwV 1 hts gX1_setOutflow_X1_isArm rfl rfl rfl hdX1_isArm ⟨Nat.le_of_ble_eq_true rfl, Nat.le_of_ble_eq_true rfl⟩) (preV hK hP rfl rfl) rfl rfl hl.1 rfl (lv_room (Nat.le_of_ble_eq_true rfl)) dX1_setOutflow_3 ⟨Nat.zero_le _, Nat.zero_le _⟩) (fun r_1 er_1 => ?_)
  subst er_1
  refine w_ifBne (tgt := 13) hx hb dX1_setOutflow_6 (by decide) (fun h6_0 => absurd (hy) (by rw [h6_0]; decide)) (fun h6_0 => ?_)
  refine lv_iconst (v := nI 1) hx hb dX1_setOutflow_9 (by decide) ?_
  refine lv_goto (tgt := 29) hx hb dX1_setOutflow_10 (by decide) ?_
  refine w_putM (v := .int (nI 1)) (ty := .int) S in_w hK hP (wD_of hq rfl) hS rfl 0 (by decide) fl_45 rfl (by decide +kernel) rfl rfl (Nat.le_of_ble_eq_true rfl) rfl dX1_setOutflow_29 (fun H locs hP hS => ?_)
  have hP : va_P D cls2 (mW q cI cD (nI 1) (nI n) rC hh fi fo fw fe fr ff fp fl fc) H := hP
  refine lv_aload_n hx hb dX1_setOutflow_32 rfl (lv_at hl 0 rfl) ?_
  refine w_getM (own := RX1) (v := .int (nI 1)) S in_w hK hP rfl 0 (by decide) fl_45 rfl rfl dX1_setOutflow_33 ?_
  refine lv_if_le (tgt := 41) hx hb dX1_setOutflow_36 (by decide) (fun h36_1 => absurd h36_1 (by decide)) (fun h36_1 => ?_)
  refine lv_iconst (v := nI 0) hx hb dX1_setOutflow_39 (by decide) ?_
  subst hQ
  exact W.iret hx hb hr (fun t ht hWm => ⟨⟨_, (), rfl, trivial, (show va_P D cls2 _ t.heap from by rw [ht]; exact hP)⟩, hS.F ht⟩) hS.2.2 dX1_setOutflow_40
set_option maxHeartbeats 4000000 in
set_option maxRecDepth 100000 in
theorem c_X1_setOutflowx2 {l : Launch} {D : va_G} {q : Nat → Nat} {cI cD : ClassId} {th rC : Int32} {hh : Int64} {fi fo fw : Nat → Int32} {fe : Nat → UInt64} {fr : Nat → Int32} {ff : Nat → UInt64} {fp fl fc : Nat → Int32} {n : Nat} (hn : 3 ≤ n ∧ n ≤ 6) {i : Nat} {x : Int32} (hi : i < n) (hxx : wth x (nI 0) (nI 9999) = false) (hq : qD q) : Met l yX1_setOutflow wsX1_setOutflow rX1_setOutflow (va_Pc [.ref (q 0), .int (nI i), .int x] (wPre D (tys2 cI cD) (mW q cI cD th (nI n) rC hh fi fo fw fe fr ff fp fl fc))) (va_Qi (fun r (u : Unit) => True) (fun u t => va_P D cls2 (mW q cI cD (nI 2) (nI n) rC hh fi fo fw fe fr ff fp fl fc) t.heap) (qA q)) 0 0 (qA q) := by
  refine met_intro (cc := cX1_setOutflow) (maxL := 4) (ret := (some .int)) (own := RX1) (by decide) rfl rfl (Nat.le_of_ble_eq_true rfl) ?_
  intro pp ee ss mm args below meth cd Q ls hQ S hr hlocks hv hB hl
  obtain ⟨hx, hb, hml, hown, hts⟩ := id S
  obtain ⟨hP, hK⟩ := hB
  have in_w : ∀ w ∈ wsX10, w ∈ wsX1_setOutflow := by decide +kernel
  have fl_45 : Cond.fieldLink RX1 45 RX1 (TX1 0).2.1 (TX1 0).2.2.1 ∈ wsX1_setOutflow := by decide +kernel
  have hS : va_S (qA q) ss.heap ss.heap [] := va_S.rf
  generalize hHg : ss.heap = H at hP
  have hS : va_S (qA q) ss.heap H [] := by rw [← hHg]; exact hS
  suffices hgo : ∀ locs : List Loc, va_S (qA q) ss.heap H locs → W pp l ee rX1_setOutflow ss mm args below meth cd H locs 0 0 Q (F0 mm 0 ls []) by
    first | exact hgo [] hS | (rw [hHg]; exact hgo [] hS)
  clear hS
  intro locs hS
  have hl : lv_has ls 4 [(0, .ref (q 0)), (1, .int (nI i)), (2, .int x)] := hl
  refine lv_aload_n hx hb dX1_setOutflow_0 rfl (lv_at hl 0 rfl) ?_
  refine lv_aload_n hx hb dX1_setOutflow_1 rfl (lv_at hl 0 rfl) ?_
  refine lv_iload_n hx hb dX1_setOutflow_2 rfl (lv_at hl 1 rfl) ?_
  refine vp_callSi (W.runV (As := [.int (nI i)]) (rest := [.ref (q 0)]) S (c_X1_isArm (x := nI i)) (cwV 1 hts gX1_setOutflow_X1_isArm rfl rfl rfl hdX1_isArm ⟨Nat.le_of_ble_eq_true rfl, Nat.le_of_ble_eq_true rfl⟩) (preV hK hP rfl rfl) rfl rfl hl.1 rfl (lv_room (Nat.le_of_ble_eq_true rfl)) dX1_setOutflow_3 ⟨Nat.zero_le _, Nat.zero_le _⟩) (fun r_1 er_1 => ?_)
  subst er_1
  refine w_ifBne (tgt := 13) hx hb dX1_setOutflow_6 (by decide) (fun h6_0 => ?_) (fun h6_0 => absurd ((armB_t hn hi)) (by rw [h6_0]; decide))
  refine lv_iload_n hx hb dX1_setOutflow_13 rfl (lv_at hl 2 rfl) ?_
  refine lv_iconst (v := nI 0) hx hb dX1_setOutflow_14 (by decide) ?_
  refine lv_sipush (v := nI 9999) hx hb dX1_setOutflow_15 (by decide) ?_
  refine vp_callSi (W.runS (As := [.int x, .int (nI 0), .int (nI 9999)]) (rest := [.ref (q 0)]) S (c_X1_within (v := x) (a := nI 0) (b := nI 9999)) (va_cwS 3 hts gX1_setOutflow_X1_within rfl rfl rfl hdX1_within ⟨Nat.le_of_ble_eq_true rfl, Nat.le_of_ble_eq_true rfl⟩) preS rfl rfl hl.1 rfl (lv_room (Nat.le_of_ble_eq_true rfl)) dX1_setOutflow_18 ⟨Nat.zero_le _, Nat.zero_le _⟩) (fun r_2 er_2 => ?_)
  subst er_2
  refine w_ifBeq (tgt := 28) hx hb dX1_setOutflow_21 (by decide) (fun h21_1 => ?_) (fun h21_1 => absurd (hxx) (by rw [h21_1]; decide))
  refine lv_iconst (v := nI 2) hx hb dX1_setOutflow_28 (by decide) ?_
  refine w_putM (v := .int (nI 2)) (ty := .int) S in_w hK hP (wD_of hq rfl) hS rfl 0 (by decide) fl_45 rfl (by decide +kernel) rfl rfl (Nat.le_of_ble_eq_true rfl) rfl dX1_setOutflow_29 (fun H locs hP hS => ?_)
  have hP : va_P D cls2 (mW q cI cD (nI 2) (nI n) rC hh fi fo fw fe fr ff fp fl fc) H := hP
  refine lv_aload_n hx hb dX1_setOutflow_32 rfl (lv_at hl 0 rfl) ?_
  refine w_getM (own := RX1) (v := .int (nI 2)) S in_w hK hP rfl 0 (by decide) fl_45 rfl rfl dX1_setOutflow_33 ?_
  refine lv_if_le (tgt := 41) hx hb dX1_setOutflow_36 (by decide) (fun h36_2 => absurd h36_2 (by decide)) (fun h36_2 => ?_)
  refine lv_iconst (v := nI 0) hx hb dX1_setOutflow_39 (by decide) ?_
  subst hQ
  exact W.iret hx hb hr (fun t ht hWm => ⟨⟨_, (), rfl, trivial, (show va_P D cls2 _ t.heap from by rw [ht]; exact hP)⟩, hS.F ht⟩) hS.2.2 dX1_setOutflow_40
abbrev rX1_setWeight : Room := { frames := 2, cells := 0, slots := 0, locals := 43 }
theorem hdX1_setWeight : yX1_setWeight.cls = RX1 ∧ yX1_setWeight.cls ≠ "java/lang/invoke/MethodHandle" ∧ yX1_setWeight.cls ≠ "java/lang/invoke/VarHandle" ∧ (parseMethodDescriptor yX1_setWeight.desc).map (fun d => d.parameters.length) = some 3 := by decide +kernel
set_option maxHeartbeats 4000000 in
set_option maxRecDepth 100000 in
theorem c_X1_setWeight {l : Launch} {D : va_G} {q : Nat → Nat} {cI cD : ClassId} {th rC : Int32} {hh : Int64} {fi fo fw : Nat → Int32} {fe : Nat → UInt64} {fr : Nat → Int32} {ff : Nat → UInt64} {fp fl fc : Nat → Int32} {n : Nat} (hn : 3 ≤ n ∧ n ≤ 6) {w : Nat → Nat → Int32} (hW : ag2 n fw w) {i k : Nat} {x : Int32} (hi : i < n) (hk : k < n) (hxx : wth x (nI 0) (nI 99) = true) (hq : qD q) : Met l yX1_setWeight wsX1_setWeight rX1_setWeight (va_Pc [.ref (q 0), .int (nI i), .int (nI k), .int x] (wPre D (tys2 cI cD) (mW q cI cD th (nI n) rC hh fi fo fw fe fr ff fp fl fc))) (va_Qi (fun r (u : (Nat → Int32) × (Nat → UInt64)) => r = w i k ∧ ag2 n u.1 (upd2 w i k x) ∧ ag2 n u.2 (lay (upd2 w i k x))) (fun u t => va_P D cls2 (mW q cI cD (nI 0) (nI n) (nI 0) hh fi fo u.1 u.2 fr ff fp fl fc) t.heap) (qA q)) 0 0 (qA q) := by
  refine met_intro (cc := cX1_setWeight) (maxL := 5) (ret := (some .int)) (own := RX1) (by decide) rfl rfl (Nat.le_of_ble_eq_true rfl) ?_
  intro pp ee ss mm args below meth cd Q ls hQ S hr hlocks hv hB hl
  obtain ⟨hx, hb, hml, hown, hts⟩ := id S
  obtain ⟨hP, hK⟩ := hB
  have in_w : ∀ w ∈ wsX10, w ∈ wsX1_setWeight := by decide +kernel
  have fl_20 : Cond.fieldLink RX1 20 RX1 (TX1 4).2.1 (TX1 4).2.2.1 ∈ wsX1_setWeight := by decide +kernel
  have fl_45 : Cond.fieldLink RX1 45 RX1 (TX1 0).2.1 (TX1 0).2.2.1 ∈ wsX1_setWeight := by decide +kernel
  have hS : va_S (qA q) ss.heap ss.heap [] := va_S.rf
  generalize hHg : ss.heap = H at hP
  have hS : va_S (qA q) ss.heap H [] := by rw [← hHg]; exact hS
  suffices hgo : ∀ locs : List Loc, va_S (qA q) ss.heap H locs → W pp l ee rX1_setWeight ss mm args below meth cd H locs 0 0 Q (F0 mm 0 ls []) by
    first | exact hgo [] hS | (rw [hHg]; exact hgo [] hS)
  clear hS
  intro locs hS
  have hl : lv_has ls 5 [(0, .ref (q 0)), (1, .int (nI i)), (2, .int (nI k)), (3, .int x)] := hl
  refine lv_aload_n hx hb dX1_setWeight_0 rfl (lv_at hl 0 rfl) ?_
  refine lv_aload_n hx hb dX1_setWeight_1 rfl (lv_at hl 0 rfl) ?_
  refine lv_iload_n hx hb dX1_setWeight_2 rfl (lv_at hl 1 rfl) ?_
  refine vp_callSi (W.runV (As := [.int (nI i)]) (rest := [.ref (q 0)]) S (c_X1_isArm (x := nI i)) (cwV 1 hts gX1_setWeight_X1_isArm rfl rfl rfl hdX1_isArm ⟨Nat.le_of_ble_eq_true rfl, Nat.le_of_ble_eq_true rfl⟩) (preV hK hP rfl rfl) rfl rfl hl.1 rfl (lv_room (Nat.le_of_ble_eq_true rfl)) dX1_setWeight_3 ⟨Nat.zero_le _, Nat.zero_le _⟩) (fun r_1 er_1 => ?_)
  subst er_1
  refine w_ifBeq (tgt := 17) hx hb dX1_setWeight_6 (by decide) (fun h6_0 => absurd ((armB_t hn hi)) (by rw [h6_0]; decide)) (fun h6_0 => ?_)
  refine lv_aload_n hx hb dX1_setWeight_9 rfl (lv_at hl 0 rfl) ?_
  refine lv_iload_n hx hb dX1_setWeight_10 rfl (lv_at hl 2 rfl) ?_
  refine vp_callSi (W.runV (As := [.int (nI k)]) (rest := [.ref (q 0)]) S (c_X1_isArm (x := nI k)) (cwV 1 hts gX1_setWeight_X1_isArm rfl rfl rfl hdX1_isArm ⟨Nat.le_of_ble_eq_true rfl, Nat.le_of_ble_eq_true rfl⟩) (preV hK hP rfl rfl) rfl rfl hl.1 rfl (lv_room (Nat.le_of_ble_eq_true rfl)) dX1_setWeight_11 ⟨Nat.zero_le _, Nat.zero_le _⟩) (fun r_2 er_2 => ?_)
  subst er_2
  refine w_ifBne (tgt := 21) hx hb dX1_setWeight_14 (by decide) (fun h14_1 => ?_) (fun h14_1 => absurd ((armB_t hn hk)) (by rw [h14_1]; decide))
  refine lv_iload_n hx hb dX1_setWeight_21 rfl (lv_at hl 3 rfl) ?_
  refine lv_iconst (v := nI 0) hx hb dX1_setWeight_22 (by decide) ?_
  refine lv_bipush (v := nI 99) hx hb dX1_setWeight_23 (by decide) ?_
  refine vp_callSi (W.runS (As := [.int x, .int (nI 0), .int (nI 99)]) (rest := [.ref (q 0)]) S (c_X1_within (v := x) (a := nI 0) (b := nI 99)) (va_cwS 3 hts gX1_setWeight_X1_within rfl rfl rfl hdX1_within ⟨Nat.le_of_ble_eq_true rfl, Nat.le_of_ble_eq_true rfl⟩) preS rfl rfl hl.1 rfl (lv_room (Nat.le_of_ble_eq_true rfl)) dX1_setWeight_25 ⟨Nat.zero_le _, Nat.zero_le _⟩) (fun r_3 er_3 => ?_)
  subst er_3
  refine w_ifBeq (tgt := 35) hx hb dX1_setWeight_28 (by decide) (fun h28_2 => absurd (hxx) (by rw [h28_2]; decide)) (fun h28_2 => ?_)
  refine lv_iconst (v := nI 0) hx hb dX1_setWeight_31 (by decide) ?_
  refine lv_goto (tgt := 36) hx hb dX1_setWeight_32 (by decide) ?_
  refine w_putM (v := .int (nI 0)) (ty := .int) S in_w hK hP (wD_of hq rfl) hS rfl 0 (by decide) fl_45 rfl (by decide +kernel) rfl rfl (Nat.le_of_ble_eq_true rfl) rfl dX1_setWeight_36 (fun H locs hP hS => ?_)
  have hP : va_P D cls2 (mW q cI cD (nI 0) (nI n) rC hh fi fo fw fe fr ff fp fl fc) H := hP
  refine lv_aload_n hx hb dX1_setWeight_39 rfl (lv_at hl 0 rfl) ?_
  refine w_getM (own := RX1) (v := .int (nI 0)) S in_w hK hP rfl 0 (by decide) fl_45 rfl rfl dX1_setWeight_40 ?_
  refine lv_if_le (tgt := 48) hx hb dX1_setWeight_43 (by decide) (fun h43_3 => ?_) (fun h43_3 => absurd (by decide) h43_3)
  refine lv_aload_n hx hb dX1_setWeight_48 rfl (lv_at hl 0 rfl) ?_
  refine w_getM (own := RX1) (v := .ref (q 3)) S in_w hK hP rfl 4 (by decide) fl_20 rfl rfl dX1_setWeight_49 ?_
  refine lv_bipush (v := nI 6) hx hb dX1_setWeight_52 (by decide) ?_
  refine lv_iload_n hx hb dX1_setWeight_54 rfl (lv_at hl 1 rfl) ?_
  refine w_imulL (N := 6) (y := 0) hx hb rfl dX1_setWeight_55 ?_
  refine lv_iload_n hx hb dX1_setWeight_56 rfl (lv_at hl 2 rfl) ?_
  refine w_iadd hx hb dX1_setWeight_57 ?_
  refine w_iald hx hb hK hP 3 0 rfl rfl (j := 6 * i + k) (v := w i k) (hW i k (by omega) (by omega)) (by omega) (by decide) dX1_setWeight_58 ?_
  refine lv_istore (lv' := [(4, .int (w i k)), (0, .ref (q 0)), (1, .int (nI i)), (2, .int (nI k)), (3, .int x)]) hx hb dX1_setWeight_59 hl (by decide) rfl (fun ls hl => ?_)
  refine lv_aload_n hx hb dX1_setWeight_61 rfl (lv_at hl 1 rfl) ?_
  refine w_getM (own := RX1) (v := .ref (q 3)) S in_w hK hP rfl 4 (by decide) fl_20 rfl rfl dX1_setWeight_62 ?_
  refine lv_bipush (v := nI 6) hx hb dX1_setWeight_65 (by decide) ?_
  refine lv_iload_n hx hb dX1_setWeight_67 rfl (lv_at hl 2 rfl) ?_
  refine w_imulL (N := 6) (y := 0) hx hb rfl dX1_setWeight_68 ?_
  refine lv_iload_n hx hb dX1_setWeight_69 rfl (lv_at hl 3 rfl) ?_
  refine w_iadd hx hb dX1_setWeight_70 ?_
  refine lv_iload_n hx hb dX1_setWeight_71 rfl (lv_at hl 4 rfl) ?_
  refine w_iast hx hb hK hP (wD_of hq rfl) hS 3 0 rfl rfl (j := 6 * i + k) (x := x) (by omega) (by decide) dX1_setWeight_72 (fun H locs hP _ hS => ?_)
  have hP : va_P D cls2 (mW q cI cD (nI 0) (nI n) rC hh fi fo (upd fw (6 * i + k) x) fe fr ff fp fl fc) H := hP
  have g_5 : ag2 n (upd fw (6 * i + k) x) (upd2 w i k x) := (ag2_upd hW hn.2 (i := i) (j := k) (by omega) x)
  generalize (upd fw (6 * i + k) x) = a_4 at hP g_5
  refine lv_aload_n hx hb dX1_setWeight_73 rfl (lv_at hl 1 rfl) ?_
  refine va_callv (va_runV (As := []) (rest := []) S (c_X1_layWeights hq) (cwV 0 hts gX1_setWeight_X1_layWeights rfl rfl rfl hdX1_layWeights ⟨Nat.le_of_ble_eq_true rfl, Nat.le_of_ble_eq_true rfl⟩) (preV hK hP rfl rfl) rfl rfl hl.1 rfl (lv_room (Nat.le_of_ble_eq_true rfl)) dX1_setWeight_74 ⟨Nat.zero_le _, Nat.zero_le _⟩) hS (fun _ _ h => h) (fun _ h => h) (fun u_7 t H locs ht hvm hw_8 hB hz1 hk1 hS => ?_)
  replace hB : va_P D cls2 _ t.heap := hB
  rw [ht] at hB
  subst hw_8
  have hP : va_P D cls2 (mW q cI cD (nI 0) (nI n) (nI 0) hh fi fo a_4 (lwR a_4 36 fe) fr ff fp fl fc) H := hB
  refine lv_iload hx hb dX1_setWeight_77 (lv_at hl 0 rfl) ?_
  subst hQ
  exact W.iret hx hb hr (fun t ht hWm => ⟨⟨_, (a_4, lwR a_4 36 fe), rfl, ⟨rfl, g_5, (lwR_ag hn.2 g_5)⟩, (show va_P D cls2 _ t.heap from by rw [ht]; exact hP)⟩, hS.F ht⟩) hS.2.2 dX1_setWeight_79
set_option maxHeartbeats 4000000 in
set_option maxRecDepth 100000 in
theorem c_X1_setWeightx1 {l : Launch} {D : va_G} {q : Nat → Nat} {cI cD : ClassId} {th rC : Int32} {hh : Int64} {fi fo fw : Nat → Int32} {fe : Nat → UInt64} {fr : Nat → Int32} {ff : Nat → UInt64} {fp fl fc : Nat → Int32} {n : Nat} (hn : 3 ≤ n ∧ n ≤ 6) {x y z : Int32} (hy : armB n y = false) (hq : qD q) : Met l yX1_setWeight wsX1_setWeight rX1_setWeight (va_Pc [.ref (q 0), .int y, .int z, .int x] (wPre D (tys2 cI cD) (mW q cI cD th (nI n) rC hh fi fo fw fe fr ff fp fl fc))) (va_Qi (fun r (u : Unit) => True) (fun u t => va_P D cls2 (mW q cI cD (nI 1) (nI n) rC hh fi fo fw fe fr ff fp fl fc) t.heap) (qA q)) 0 0 (qA q) := by
  refine met_intro (cc := cX1_setWeight) (maxL := 5) (ret := (some .int)) (own := RX1) (by decide) rfl rfl (Nat.le_of_ble_eq_true rfl) ?_
  intro pp ee ss mm args below meth cd Q ls hQ S hr hlocks hv hB hl
  obtain ⟨hx, hb, hml, hown, hts⟩ := id S
  obtain ⟨hP, hK⟩ := hB
  have in_w : ∀ w ∈ wsX10, w ∈ wsX1_setWeight := by decide +kernel
  have fl_45 : Cond.fieldLink RX1 45 RX1 (TX1 0).2.1 (TX1 0).2.2.1 ∈ wsX1_setWeight := by decide +kernel
  have hS : va_S (qA q) ss.heap ss.heap [] := va_S.rf
  generalize hHg : ss.heap = H at hP
  have hS : va_S (qA q) ss.heap H [] := by rw [← hHg]; exact hS
  suffices hgo : ∀ locs : List Loc, va_S (qA q) ss.heap H locs → W pp l ee rX1_setWeight ss mm args below meth cd H locs 0 0 Q (F0 mm 0 ls []) by
    first | exact hgo [] hS | (rw [hHg]; exact hgo [] hS)
  clear hS
  intro locs hS
  have hl : lv_has ls 5 [(0, .ref (q 0)), (1, .int y), (2, .int z), (3, .int x)] := hl
  refine lv_aload_n hx hb dX1_setWeight_0 rfl (lv_at hl 0 rfl) ?_
  refine lv_aload_n hx hb dX1_setWeight_1 rfl (lv_at hl 0 rfl) ?_
  refine lv_iload_n hx hb dX1_setWeight_2 rfl (lv_at hl 1 rfl) ?_
  refine vp_callSi (W.runV (As := [.int y]) (rest := [.ref (q 0)]) S (c_X1_isArm (x := y)) (cwV 1 hts gX1_setWeight_X1_isArm rfl rfl rfl hdX1_isArm ⟨Nat.le_of_ble_eq_true rfl, Nat.le_of_ble_eq_true rfl⟩) (preV hK hP rfl rfl) rfl rfl hl.1 rfl (lv_room (Nat.le_of_ble_eq_true rfl)) dX1_setWeight_3 ⟨Nat.zero_le _, Nat.zero_le _⟩) (fun r_1 er_1 => ?_)
  subst er_1
  refine w_ifBeq (tgt := 17) hx hb dX1_setWeight_6 (by decide) (fun h6_0 => ?_) (fun h6_0 => absurd (hy) (by rw [h6_0]; decide))
  refine lv_iconst (v := nI 1) hx hb dX1_setWeight_17 (by decide) ?_
  refine lv_goto (tgt := 36) hx hb dX1_setWeight_18 (by decide) ?_
  refine w_putM (v := .int (nI 1)) (ty := .int) S in_w hK hP (wD_of hq rfl) hS rfl 0 (by decide) fl_45 rfl (by decide +kernel) rfl rfl (Nat.le_of_ble_eq_true rfl) rfl dX1_setWeight_36 (fun H locs hP hS => ?_)
  have hP : va_P D cls2 (mW q cI cD (nI 1) (nI n) rC hh fi fo fw fe fr ff fp fl fc) H := hP
  refine lv_aload_n hx hb dX1_setWeight_39 rfl (lv_at hl 0 rfl) ?_
  refine w_getM (own := RX1) (v := .int (nI 1)) S in_w hK hP rfl 0 (by decide) fl_45 rfl rfl dX1_setWeight_40 ?_
  refine lv_if_le (tgt := 48) hx hb dX1_setWeight_43 (by decide) (fun h43_1 => absurd h43_1 (by decide)) (fun h43_1 => ?_)
  refine lv_iconst (v := nI 0) hx hb dX1_setWeight_46 (by decide) ?_
  subst hQ
  exact W.iret hx hb hr (fun t ht hWm => ⟨⟨_, (), rfl, trivial, (show va_P D cls2 _ t.heap from by rw [ht]; exact hP)⟩, hS.F ht⟩) hS.2.2 dX1_setWeight_47
set_option maxHeartbeats 4000000 in
set_option maxRecDepth 100000 in
theorem c_X1_setWeightx2 {l : Launch} {D : va_G} {q : Nat → Nat} {cI cD : ClassId} {th rC : Int32} {hh : Int64} {fi fo fw : Nat → Int32} {fe : Nat → UInt64} {fr : Nat → Int32} {ff : Nat → UInt64} {fp fl fc : Nat → Int32} {n : Nat} (hn : 3 ≤ n ∧ n ≤ 6) {i : Nat} {x z : Int32} (hi : i < n) (hz : armB n z = false) (hq : qD q) : Met l yX1_setWeight wsX1_setWeight rX1_setWeight (va_Pc [.ref (q 0), .int (nI i), .int z, .int x] (wPre D (tys2 cI cD) (mW q cI cD th (nI n) rC hh fi fo fw fe fr ff fp fl fc))) (va_Qi (fun r (u : Unit) => True) (fun u t => va_P D cls2 (mW q cI cD (nI 1) (nI n) rC hh fi fo fw fe fr ff fp fl fc) t.heap) (qA q)) 0 0 (qA q) := by
  refine met_intro (cc := cX1_setWeight) (maxL := 5) (ret := (some .int)) (own := RX1) (by decide) rfl rfl (Nat.le_of_ble_eq_true rfl) ?_
  intro pp ee ss mm args below meth cd Q ls hQ S hr hlocks hv hB hl
  obtain ⟨hx, hb, hml, hown, hts⟩ := id S
  obtain ⟨hP, hK⟩ := hB
  have in_w : ∀ w ∈ wsX10, w ∈ wsX1_setWeight := by decide +kernel
  have fl_45 : Cond.fieldLink RX1 45 RX1 (TX1 0).2.1 (TX1 0).2.2.1 ∈ wsX1_setWeight := by decide +kernel
  have hS : va_S (qA q) ss.heap ss.heap [] := va_S.rf
  generalize hHg : ss.heap = H at hP
  have hS : va_S (qA q) ss.heap H [] := by rw [← hHg]; exact hS
  suffices hgo : ∀ locs : List Loc, va_S (qA q) ss.heap H locs → W pp l ee rX1_setWeight ss mm args below meth cd H locs 0 0 Q (F0 mm 0 ls []) by
    first | exact hgo [] hS | (rw [hHg]; exact hgo [] hS)
  clear hS
  intro locs hS
  have hl : lv_has ls 5 [(0, .ref (q 0)), (1, .int (nI i)), (2, .int z), (3, .int x)] := hl
  refine lv_aload_n hx hb dX1_setWeight_0 rfl (lv_at hl 0 rfl) ?_
  refine lv_aload_n hx hb dX1_setWeight_1 rfl (lv_at hl 0 rfl) ?_
  refine lv_iload_n hx hb dX1_setWeight_2 rfl (lv_at hl 1 rfl) ?_
  refine vp_callSi (W.runV (As := [.int (nI i)]) (rest := [.ref (q 0)]) S (c_X1_isArm (x := nI i)) (cwV 1 hts gX1_setWeight_X1_isArm rfl rfl rfl hdX1_isArm ⟨Nat.le_of_ble_eq_true rfl, Nat.le_of_ble_eq_true rfl⟩) (preV hK hP rfl rfl) rfl rfl hl.1 rfl (lv_room (Nat.le_of_ble_eq_true rfl)) dX1_setWeight_3 ⟨Nat.zero_le _, Nat.zero_le _⟩) (fun r_1 er_1 => ?_)
  subst er_1
  refine w_ifBeq (tgt := 17) hx hb dX1_setWeight_6 (by decide) (fun h6_0 => absurd ((armB_t hn hi)) (by rw [h6_0]; decide)) (fun h6_0 => ?_)
  refine lv_aload_n hx hb dX1_setWeight_9 rfl (lv_at hl 0 rfl) ?_
  refine lv_iload_n hx hb dX1_setWeight_10 rfl (lv_at hl 2 rfl) ?_
  refine vp_callSi (W.runV (As := [.int z]) (rest := [.ref (q 0)]) S (c_X1_isArm (x := z)) (cwV 1 hts gX1_setWeight_X1_isArm rfl rfl rfl hdX1_isArm ⟨Nat.le_of_ble_eq_true rfl, Nat.le_of_ble_eq_true rfl⟩) (preV hK hP rfl rfl) rfl rfl hl.1 rfl (lv_room (Nat.le_of_ble_eq_true rfl)) dX1_setWeight_11 ⟨Nat.zero_le _, Nat.zero_le _⟩) (fun r_2 er_2 => ?_)
  subst er_2
  refine w_ifBne (tgt := 21) hx hb dX1_setWeight_14 (by decide) (fun h14_1 => absurd (hz) (by rw [h14_1]; decide)) (fun h14_1 => ?_)
  refine lv_iconst (v := nI 1) hx hb dX1_setWeight_17 (by decide) ?_
  refine lv_goto (tgt := 36) hx hb dX1_setWeight_18 (by decide) ?_
  refine w_putM (v := .int (nI 1)) (ty := .int) S in_w hK hP (wD_of hq rfl) hS rfl 0 (by decide) fl_45 rfl (by decide +kernel) rfl rfl (Nat.le_of_ble_eq_true rfl) rfl dX1_setWeight_36 (fun H locs hP hS => ?_)
  have hP : va_P D cls2 (mW q cI cD (nI 1) (nI n) rC hh fi fo fw fe fr ff fp fl fc) H := hP
  refine lv_aload_n hx hb dX1_setWeight_39 rfl (lv_at hl 0 rfl) ?_
  refine w_getM (own := RX1) (v := .int (nI 1)) S in_w hK hP rfl 0 (by decide) fl_45 rfl rfl dX1_setWeight_40 ?_
  refine lv_if_le (tgt := 48) hx hb dX1_setWeight_43 (by decide) (fun h43_2 => absurd h43_2 (by decide)) (fun h43_2 => ?_)
  refine lv_iconst (v := nI 0) hx hb dX1_setWeight_46 (by decide) ?_
  subst hQ
  exact W.iret hx hb hr (fun t ht hWm => ⟨⟨_, (), rfl, trivial, (show va_P D cls2 _ t.heap from by rw [ht]; exact hP)⟩, hS.F ht⟩) hS.2.2 dX1_setWeight_47
set_option maxHeartbeats 4000000 in
set_option maxRecDepth 100000 in
theorem c_X1_setWeightx3 {l : Launch} {D : va_G} {q : Nat → Nat} {cI cD : ClassId} {th rC : Int32} {hh : Int64} {fi fo fw : Nat → Int32} {fe : Nat → UInt64} {fr : Nat → Int32} {ff : Nat → UInt64} {fp fl fc : Nat → Int32} {n : Nat} (hn : 3 ≤ n ∧ n ≤ 6) {i k : Nat} {x : Int32} (hi : i < n) (hk : k < n) (hxx : wth x (nI 0) (nI 99) = false) (hq : qD q) : Met l yX1_setWeight wsX1_setWeight rX1_setWeight (va_Pc [.ref (q 0), .int (nI i), .int (nI k), .int x] (wPre D (tys2 cI cD) (mW q cI cD th (nI n) rC hh fi fo fw fe fr ff fp fl fc))) (va_Qi (fun r (u : Unit) => True) (fun u t => va_P D cls2 (mW q cI cD (nI 2) (nI n) rC hh fi fo fw fe fr ff fp fl fc) t.heap) (qA q)) 0 0 (qA q) := by
  refine met_intro (cc := cX1_setWeight) (maxL := 5) (ret := (some .int)) (own := RX1) (by decide) rfl rfl (Nat.le_of_ble_eq_true rfl) ?_
  intro pp ee ss mm args below meth cd Q ls hQ S hr hlocks hv hB hl
  obtain ⟨hx, hb, hml, hown, hts⟩ := id S
  obtain ⟨hP, hK⟩ := hB
  have in_w : ∀ w ∈ wsX10, w ∈ wsX1_setWeight := by decide +kernel
  have fl_45 : Cond.fieldLink RX1 45 RX1 (TX1 0).2.1 (TX1 0).2.2.1 ∈ wsX1_setWeight := by decide +kernel
  have hS : va_S (qA q) ss.heap ss.heap [] := va_S.rf
  generalize hHg : ss.heap = H at hP
  have hS : va_S (qA q) ss.heap H [] := by rw [← hHg]; exact hS
  suffices hgo : ∀ locs : List Loc, va_S (qA q) ss.heap H locs → W pp l ee rX1_setWeight ss mm args below meth cd H locs 0 0 Q (F0 mm 0 ls []) by
    first | exact hgo [] hS | (rw [hHg]; exact hgo [] hS)
  clear hS
  intro locs hS
  have hl : lv_has ls 5 [(0, .ref (q 0)), (1, .int (nI i)), (2, .int (nI k)), (3, .int x)] := hl
  refine lv_aload_n hx hb dX1_setWeight_0 rfl (lv_at hl 0 rfl) ?_
  refine lv_aload_n hx hb dX1_setWeight_1 rfl (lv_at hl 0 rfl) ?_
  refine lv_iload_n hx hb dX1_setWeight_2 rfl (lv_at hl 1 rfl) ?_
  refine vp_callSi (W.runV (As := [.int (nI i)]) (rest := [.ref (q 0)]) S (c_X1_isArm (x := nI i)) (cwV 1 hts gX1_setWeight_X1_isArm rfl rfl rfl hdX1_isArm ⟨Nat.le_of_ble_eq_true rfl, Nat.le_of_ble_eq_true rfl⟩) (preV hK hP rfl rfl) rfl rfl hl.1 rfl (lv_room (Nat.le_of_ble_eq_true rfl)) dX1_setWeight_3 ⟨Nat.zero_le _, Nat.zero_le _⟩) (fun r_1 er_1 => ?_)
  subst er_1
  refine w_ifBeq (tgt := 17) hx hb dX1_setWeight_6 (by decide) (fun h6_0 => absurd ((armB_t hn hi)) (by rw [h6_0]; decide)) (fun h6_0 => ?_)
  refine lv_aload_n hx hb dX1_setWeight_9 rfl (lv_at hl 0 rfl) ?_
  refine lv_iload_n hx hb dX1_setWeight_10 rfl (lv_at hl 2 rfl) ?_
  refine vp_callSi (W.runV (As := [.int (nI k)]) (rest := [.ref (q 0)]) S (c_X1_isArm (x := nI k)) (cwV 1 hts gX1_setWeight_X1_isArm rfl rfl rfl hdX1_isArm ⟨Nat.le_of_ble_eq_true rfl, Nat.le_of_ble_eq_true rfl⟩) (preV hK hP rfl rfl) rfl rfl hl.1 rfl (lv_room (Nat.le_of_ble_eq_true rfl)) dX1_setWeight_11 ⟨Nat.zero_le _, Nat.zero_le _⟩) (fun r_2 er_2 => ?_)
  subst er_2
  refine w_ifBne (tgt := 21) hx hb dX1_setWeight_14 (by decide) (fun h14_1 => ?_) (fun h14_1 => absurd ((armB_t hn hk)) (by rw [h14_1]; decide))
  refine lv_iload_n hx hb dX1_setWeight_21 rfl (lv_at hl 3 rfl) ?_
  refine lv_iconst (v := nI 0) hx hb dX1_setWeight_22 (by decide) ?_
  refine lv_bipush (v := nI 99) hx hb dX1_setWeight_23 (by decide) ?_
  refine vp_callSi (W.runS (As := [.int x, .int (nI 0), .int (nI 99)]) (rest := [.ref (q 0)]) S (c_X1_within (v := x) (a := nI 0) (b := nI 99)) (va_cwS 3 hts gX1_setWeight_X1_within rfl rfl rfl hdX1_within ⟨Nat.le_of_ble_eq_true rfl, Nat.le_of_ble_eq_true rfl⟩) preS rfl rfl hl.1 rfl (lv_room (Nat.le_of_ble_eq_true rfl)) dX1_setWeight_25 ⟨Nat.zero_le _, Nat.zero_le _⟩) (fun r_3 er_3 => ?_)
  subst er_3
  refine w_ifBeq (tgt := 35) hx hb dX1_setWeight_28 (by decide) (fun h28_2 => ?_) (fun h28_2 => absurd (hxx) (by rw [h28_2]; decide))
  refine lv_iconst (v := nI 2) hx hb dX1_setWeight_35 (by decide) ?_
  refine w_putM (v := .int (nI 2)) (ty := .int) S in_w hK hP (wD_of hq rfl) hS rfl 0 (by decide) fl_45 rfl (by decide +kernel) rfl rfl (Nat.le_of_ble_eq_true rfl) rfl dX1_setWeight_36 (fun H locs hP hS => ?_)
  have hP : va_P D cls2 (mW q cI cD (nI 2) (nI n) rC hh fi fo fw fe fr ff fp fl fc) H := hP
  refine lv_aload_n hx hb dX1_setWeight_39 rfl (lv_at hl 0 rfl) ?_
  refine w_getM (own := RX1) (v := .int (nI 2)) S in_w hK hP rfl 0 (by decide) fl_45 rfl rfl dX1_setWeight_40 ?_
  refine lv_if_le (tgt := 48) hx hb dX1_setWeight_43 (by decide) (fun h43_3 => absurd h43_3 (by decide)) (fun h43_3 => ?_)
  refine lv_iconst (v := nI 0) hx hb dX1_setWeight_46 (by decide) ?_
  subst hQ
  exact W.iret hx hb hr (fun t ht hWm => ⟨⟨_, (), rfl, trivial, (show va_P D cls2 _ t.heap from by rw [ht]; exact hP)⟩, hS.F ht⟩) hS.2.2 dX1_setWeight_47
abbrev rX1_scaled : Room := { frames := 0, cells := 0, slots := 0, locals := 0 }
theorem hdX1_scaled : yX1_scaled.cls ≠ "java/lang/invoke/MethodHandle" ∧ yX1_scaled.cls ≠ "java/lang/invoke/VarHandle" ∧ (parseMethodDescriptor yX1_scaled.desc).map (fun d => d.parameters.length) = some 2 := by decide +kernel
set_option maxHeartbeats 4000000 in
set_option maxRecDepth 100000 in
theorem c_X1_scaled {l : Launch} {a b : Int32} : Met l yX1_scaled wsX1_scaled rX1_scaled (va_Pc [.int a, .int b] (fun _ => True)) (vp_Si (fun r => r = scl a b)) 0 0 (fun _ => False) := by
  refine met_intro (cc := cX1_scaled) (maxL := 2) (ret := (some .int)) (own := RX1) (by decide) rfl rfl (Nat.le_of_ble_eq_true rfl) ?_
  intro pp ee ss mm args below meth cd Q ls hQ S hr hlocks hv hB hl
  obtain ⟨hx, hb, hml, hown, hts⟩ := id S
  have hl : lv_has ls 2 [(0, .int a), (1, .int b)] := hl
  refine lv_iload_n hx hb dX1_scaled_0 rfl (lv_at hl 0 rfl) ?_
  refine lv_iload_n hx hb dX1_scaled_1 rfl (lv_at hl 1 rfl) ?_
  refine lv_imul hx hb dX1_scaled_2 ?_
  refine lv_bipush (v := nI 50) hx hb dX1_scaled_3 (by decide) ?_
  refine lv_iadd hx hb dX1_scaled_5 ?_
  refine lv_bipush (v := nI 100) hx hb dX1_scaled_6 (by decide) ?_
  refine lv_idiv hx hb dX1_scaled_8 (by decide) ?_
  subst hQ
  exact W.iret hx hb hr (fun t ht hWm => ⟨_, rfl, rfl, ht⟩) (fun q h => absurd h List.not_mem_nil) dX1_scaled_9
abbrev rX1_isScalable : Room := { frames := 1, cells := 0, slots := 0, locals := 21 }
theorem hdX1_isScalable : yX1_isScalable.cls = RX1 ∧ yX1_isScalable.cls ≠ "java/lang/invoke/MethodHandle" ∧ yX1_isScalable.cls ≠ "java/lang/invoke/VarHandle" ∧ (parseMethodDescriptor yX1_isScalable.desc).map (fun d => d.parameters.length) = some 1 := by decide +kernel
set_option maxHeartbeats 4000000 in
set_option maxRecDepth 100000 in
theorem c_X1_isScalable {l : Launch} {D : va_G} {q : Nat → Nat} {cI cD : ClassId} {th rC : Int32} {hh : Int64} {fi fo fw : Nat → Int32} {fe : Nat → UInt64} {fr : Nat → Int32} {ff : Nat → UInt64} {fp fl fc : Nat → Int32} {n : Nat} (hn : 3 ≤ n ∧ n ≤ 6) {inf : Nat → Int32} (hI : ag1 n fi inf) {out : Nat → Int32} (hO : ag1 n fo out) {x : Int32} : Met l yX1_isScalable wsX1_isScalable rX1_isScalable (va_Pc [.ref (q 0), .int x] (wPre D (tys2 cI cD) (mW q cI cD th (nI n) rC hh fi fo fw fe fr ff fp fl fc))) (vp_Si (fun r => r = bI (slB inf out x n))) 0 0 (fun _ => False) := by
  refine met_intro (cc := cX1_isScalable) (maxL := 4) (ret := (some .boolean)) (own := RX1) (by decide) rfl rfl (Nat.le_of_ble_eq_true rfl) ?_
  intro pp ee ss mm args below meth cd Q ls hQ S hr hlocks hv hB hl
  obtain ⟨hx, hb, hml, hown, hts⟩ := id S
  obtain ⟨hP, hK⟩ := hB
  have in_w : ∀ w ∈ wsX10, w ∈ wsX1_isScalable := by decide +kernel
  have fl_7 : Cond.fieldLink RX1 7 RX1 (TX1 1).2.1 (TX1 1).2.2.1 ∈ wsX1_isScalable := by decide +kernel
  have fl_13 : Cond.fieldLink RX1 13 RX1 (TX1 2).2.1 (TX1 2).2.2.1 ∈ wsX1_isScalable := by decide +kernel
  have fl_17 : Cond.fieldLink RX1 17 RX1 (TX1 3).2.1 (TX1 3).2.2.1 ∈ wsX1_isScalable := by decide +kernel
  have hl : lv_has ls 4 [(0, .ref (q 0)), (1, .int x)] := hl
  refine lv_iconst (v := nI 1) hx hb dX1_isScalable_0 (by decide) ?_
  refine lv_istore_n (lv' := [(2, .int (nI 1)), (0, .ref (q 0)), (1, .int x)]) hx hb dX1_isScalable_1 rfl hl (by decide) rfl (fun ls hl => ?_)
  refine lv_iconst (v := nI 0) hx hb dX1_isScalable_2 (by decide) ?_
  refine lv_istore_n (lv' := [(3, .int (nI 0)), (2, .int (nI 1)), (0, .ref (q 0)), (1, .int x)]) hx hb dX1_isScalable_3 rfl hl (by decide) rfl (fun ls hl => ?_)
  have lp4 : ∀ (j k : Nat), k + j = n → ∀ ls : Array Slot, lv_has ls 4 [(0, .ref (q 0)), (1, .int x), (2, .int (bI (slB inf out x k))), (3, .int (nI k))] → W pp l ee rX1_isScalable ss mm args below meth cd ss.heap [] 0 0 Q (F0 mm 4 ls []) := by
    intro j
    induction j with
    | zero =>
      intro k hk_k ls hl
      have hke_k : n = k := by omega
      subst hke_k
      refine lv_iload_n hx hb dX1_isScalable_4 rfl (lv_at hl 3 rfl) ?_
      refine lv_aload_n hx hb dX1_isScalable_5 rfl (lv_at hl 0 rfl) ?_
      refine w_getM (own := RX1) (v := .int (nI n)) S in_w hK hP rfl 1 (by decide) fl_7 rfl rfl dX1_isScalable_6 ?_
      refine lv_icmp_ge (tgt := 60) hx hb dX1_isScalable_9 (by decide) (fun h9_0 => ?_) (fun h9_0 => absurd (Int32.le_refl _) h9_0)
      refine lv_iload_n hx hb dX1_isScalable_60 rfl (lv_at hl 2 rfl) ?_
      subst hQ
      exact W.zret hx hb hr (nar_b _) (fun t ht hWm => ⟨_, rfl, rfl, ht⟩) (fun q h => absurd h List.not_mem_nil) dX1_isScalable_61
    | succ j ih =>
      intro k hk_k ls hl
      have hlt_k : k < n := by omega
      refine lv_iload_n hx hb dX1_isScalable_4 rfl (lv_at hl 3 rfl) ?_
      refine lv_aload_n hx hb dX1_isScalable_5 rfl (lv_at hl 0 rfl) ?_
      refine w_getM (own := RX1) (v := .int (nI n)) S in_w hK hP rfl 1 (by decide) fl_7 rfl rfl dX1_isScalable_6 ?_
      refine lv_icmp_ge (tgt := 60) hx hb dX1_isScalable_9 (by decide) (fun h9_0 => absurd h9_0 (nI_ge hlt_k (by omega))) (fun h9_0 => ?_)
      refine lv_iload_n hx hb dX1_isScalable_12 rfl (lv_at hl 2 rfl) ?_
      refine w_ifBeq (tgt := 52) hx hb dX1_isScalable_13 (by decide) (fun h13_1 => ?_) (fun h13_1 => ?_)
      · refine lv_iconst (v := nI 0) hx hb dX1_isScalable_52 (by decide) ?_
        refine lv_istore_n (lv' := [(2, .int (nI 0)), (0, .ref (q 0)), (1, .int x), (3, .int (nI k))]) hx hb dX1_isScalable_53 rfl hl (by decide) rfl (fun ls hl => ?_)
        refine lv_iinc (v := nI (k + 1)) (lv' := [(3, .int (nI (k + 1))), (2, .int (nI 0)), (0, .ref (q 0)), (1, .int x)]) hx hb dX1_isScalable_54 hl (k := 3) rfl (by rw [show Int32.ofInt 1 = nI 1 from by decide, nI_add]) (by decide) rfl (fun ls hl => ?_)
        refine lv_goto (tgt := 4) hx hb dX1_isScalable_57 (by decide) ?_
        have eq_1 : bI (slB inf out x (k + 1)) = nI 0 := by (show bI (slB inf out x k && (!decide (nI 9999 < scl (inf k) x) && !decide (nI 9999 < scl (out k) x))) = _; simp only [h13_1, Bool.true_and, Bool.false_and, Bool.and_true, Bool.and_false, Bool.true_or, Bool.false_or, Bool.or_true, Bool.or_false, Bool.not_true, Bool.not_false, decide_true, decide_false]; rfl)
        have hl : lv_has ls 4 [(3, .int (nI (k + 1))), (2, .int (bI (slB inf out x (k + 1)))), (0, .ref (q 0)), (1, .int x)] := by first | exact hl | (rw [eq_1]; exact hl)
        exact ih (k + 1) (by omega) ls (lv_sub hl [2, 3, 1, 0] rfl)
      · refine lv_aload_n hx hb dX1_isScalable_16 rfl (lv_at hl 0 rfl) ?_
        refine w_getM (own := RX1) (v := .ref (q 1)) S in_w hK hP rfl 2 (by decide) fl_13 rfl rfl dX1_isScalable_17 ?_
        refine lv_iload_n hx hb dX1_isScalable_20 rfl (lv_at hl 3 rfl) ?_
        refine w_iald hx hb hK hP 1 0 rfl rfl (j := k) (v := inf k) (hI k (by omega)) (by omega) (by decide) dX1_isScalable_21 ?_
        refine lv_iload_n hx hb dX1_isScalable_22 rfl (lv_at hl 1 rfl) ?_
        refine vp_callSi (W.runS (As := [.int (inf k), .int x]) (rest := []) S (c_X1_scaled (a := inf k) (b := x)) (va_cwS 2 hts gX1_isScalable_X1_scaled rfl rfl rfl hdX1_scaled ⟨Nat.le_of_ble_eq_true rfl, Nat.le_of_ble_eq_true rfl⟩) preS rfl rfl hl.1 rfl (lv_room (Nat.le_of_ble_eq_true rfl)) dX1_isScalable_23 ⟨Nat.zero_le _, Nat.zero_le _⟩) (fun r_2 er_2 => ?_)
        subst er_2
        refine lv_sipush (v := nI 9999) hx hb dX1_isScalable_26 (by decide) ?_
        refine lv_icmp_gt (tgt := 52) hx hb dX1_isScalable_29 (by decide) (fun h29_2 => ?_) (fun h29_2 => ?_)
        · refine lv_iconst (v := nI 0) hx hb dX1_isScalable_52 (by decide) ?_
          refine lv_istore_n (lv' := [(2, .int (nI 0)), (0, .ref (q 0)), (1, .int x), (3, .int (nI k))]) hx hb dX1_isScalable_53 rfl hl (by decide) rfl (fun ls hl => ?_)
          refine lv_iinc (v := nI (k + 1)) (lv' := [(3, .int (nI (k + 1))), (2, .int (nI 0)), (0, .ref (q 0)), (1, .int x)]) hx hb dX1_isScalable_54 hl (k := 3) rfl (by rw [show Int32.ofInt 1 = nI 1 from by decide, nI_add]) (by decide) rfl (fun ls hl => ?_)
          refine lv_goto (tgt := 4) hx hb dX1_isScalable_57 (by decide) ?_
          have eq_3 : bI (slB inf out x (k + 1)) = nI 0 := by (show bI (slB inf out x k && (!decide (nI 9999 < scl (inf k) x) && !decide (nI 9999 < scl (out k) x))) = _; simp only [h13_1, h29_2, Bool.true_and, Bool.false_and, Bool.and_true, Bool.and_false, Bool.true_or, Bool.false_or, Bool.or_true, Bool.or_false, Bool.not_true, Bool.not_false, decide_true, decide_false]; rfl)
          have hl : lv_has ls 4 [(3, .int (nI (k + 1))), (2, .int (bI (slB inf out x (k + 1)))), (0, .ref (q 0)), (1, .int x)] := by first | exact hl | (rw [eq_3]; exact hl)
          exact ih (k + 1) (by omega) ls (lv_sub hl [2, 3, 1, 0] rfl)
        · refine lv_aload_n hx hb dX1_isScalable_32 rfl (lv_at hl 0 rfl) ?_
          refine w_getM (own := RX1) (v := .ref (q 2)) S in_w hK hP rfl 3 (by decide) fl_17 rfl rfl dX1_isScalable_33 ?_
          refine lv_iload_n hx hb dX1_isScalable_36 rfl (lv_at hl 3 rfl) ?_
          refine w_iald hx hb hK hP 2 0 rfl rfl (j := k) (v := out k) (hO k (by omega)) (by omega) (by decide) dX1_isScalable_37 ?_
          refine lv_iload_n hx hb dX1_isScalable_38 rfl (lv_at hl 1 rfl) ?_
          refine vp_callSi (W.runS (As := [.int (out k), .int x]) (rest := []) S (c_X1_scaled (a := out k) (b := x)) (va_cwS 2 hts gX1_isScalable_X1_scaled rfl rfl rfl hdX1_scaled ⟨Nat.le_of_ble_eq_true rfl, Nat.le_of_ble_eq_true rfl⟩) preS rfl rfl hl.1 rfl (lv_room (Nat.le_of_ble_eq_true rfl)) dX1_isScalable_39 ⟨Nat.zero_le _, Nat.zero_le _⟩) (fun r_4 er_4 => ?_)
          subst er_4
          refine lv_sipush (v := nI 9999) hx hb dX1_isScalable_42 (by decide) ?_
          refine lv_icmp_gt (tgt := 52) hx hb dX1_isScalable_45 (by decide) (fun h45_3 => ?_) (fun h45_3 => ?_)
          · refine lv_iconst (v := nI 0) hx hb dX1_isScalable_52 (by decide) ?_
            refine lv_istore_n (lv' := [(2, .int (nI 0)), (0, .ref (q 0)), (1, .int x), (3, .int (nI k))]) hx hb dX1_isScalable_53 rfl hl (by decide) rfl (fun ls hl => ?_)
            refine lv_iinc (v := nI (k + 1)) (lv' := [(3, .int (nI (k + 1))), (2, .int (nI 0)), (0, .ref (q 0)), (1, .int x)]) hx hb dX1_isScalable_54 hl (k := 3) rfl (by rw [show Int32.ofInt 1 = nI 1 from by decide, nI_add]) (by decide) rfl (fun ls hl => ?_)
            refine lv_goto (tgt := 4) hx hb dX1_isScalable_57 (by decide) ?_
            have eq_5 : bI (slB inf out x (k + 1)) = nI 0 := by (show bI (slB inf out x k && (!decide (nI 9999 < scl (inf k) x) && !decide (nI 9999 < scl (out k) x))) = _; simp only [h13_1, h29_2, h45_3, Bool.true_and, Bool.false_and, Bool.and_true, Bool.and_false, Bool.true_or, Bool.false_or, Bool.or_true, Bool.or_false, Bool.not_true, Bool.not_false, decide_true, decide_false]; rfl)
            have hl : lv_has ls 4 [(3, .int (nI (k + 1))), (2, .int (bI (slB inf out x (k + 1)))), (0, .ref (q 0)), (1, .int x)] := by first | exact hl | (rw [eq_5]; exact hl)
            exact ih (k + 1) (by omega) ls (lv_sub hl [2, 3, 1, 0] rfl)
          · refine lv_iconst (v := nI 1) hx hb dX1_isScalable_48 (by decide) ?_
            refine lv_goto (tgt := 53) hx hb dX1_isScalable_49 (by decide) ?_
            refine lv_istore_n (lv' := [(2, .int (nI 1)), (0, .ref (q 0)), (1, .int x), (3, .int (nI k))]) hx hb dX1_isScalable_53 rfl hl (by decide) rfl (fun ls hl => ?_)
            refine lv_iinc (v := nI (k + 1)) (lv' := [(3, .int (nI (k + 1))), (2, .int (nI 1)), (0, .ref (q 0)), (1, .int x)]) hx hb dX1_isScalable_54 hl (k := 3) rfl (by rw [show Int32.ofInt 1 = nI 1 from by decide, nI_add]) (by decide) rfl (fun ls hl => ?_)
            refine lv_goto (tgt := 4) hx hb dX1_isScalable_57 (by decide) ?_
            have eq_6 : bI (slB inf out x (k + 1)) = nI 1 := by (show bI (slB inf out x k && (!decide (nI 9999 < scl (inf k) x) && !decide (nI 9999 < scl (out k) x))) = _; simp only [h13_1, h29_2, h45_3, Bool.true_and, Bool.false_and, Bool.and_true, Bool.and_false, Bool.true_or, Bool.false_or, Bool.or_true, Bool.or_false, Bool.not_true, Bool.not_false, decide_true, decide_false]; rfl)
            have hl : lv_has ls 4 [(3, .int (nI (k + 1))), (2, .int (bI (slB inf out x (k + 1)))), (0, .ref (q 0)), (1, .int x)] := by first | exact hl | (rw [eq_6]; exact hl)
            exact ih (k + 1) (by omega) ls (lv_sub hl [2, 3, 1, 0] rfl)
  exact lp4 (n - 0) 0 (by omega) ls (lv_sub hl [2, 3, 1, 0] rfl)
abbrev rX1_scale : Room := { frames := 2, cells := 0, slots := 0, locals := 44 }
theorem hdX1_scale : yX1_scale.cls = RX1 ∧ yX1_scale.cls ≠ "java/lang/invoke/MethodHandle" ∧ yX1_scale.cls ≠ "java/lang/invoke/VarHandle" ∧ (parseMethodDescriptor yX1_scale.desc).map (fun d => d.parameters.length) = some 1 := by decide +kernel
set_option maxHeartbeats 4000000 in
set_option maxRecDepth 100000 in
theorem c_X1_scale {l : Launch} {D : va_G} {q : Nat → Nat} {cI cD : ClassId} {th rC : Int32} {hh : Int64} {fi fo fw : Nat → Int32} {fe : Nat → UInt64} {fr : Nat → Int32} {ff : Nat → UInt64} {fp fl fc : Nat → Int32} {n : Nat} (hn : 3 ≤ n ∧ n ≤ 6) {inf : Nat → Int32} (hI : ag1 n fi inf) {out : Nat → Int32} (hO : ag1 n fo out) {w : Nat → Nat → Int32} (hW : ag2 n fw w) {x : Int32} (hxx : wth x (nI 0) (nI 300) = true) (hsl : slB inf out x n = true) (hq : qD q) : Met l yX1_scale wsX1_scale rX1_scale (va_Pc [.ref (q 0), .int x] (wPre D (tys2 cI cD) (mW q cI cD th (nI n) rC hh fi fo fw fe fr ff fp fl fc))) (va_Qi (fun r (u : (Nat → Int32) × (Nat → Int32) × (Nat → UInt64)) => r = mscS inf x n ∧ ag1 n u.1 (scO x n inf) ∧ ag1 n u.2.1 (scO x n out) ∧ ag2 n u.2.2 (lay w)) (fun u t => va_P D cls2 (mW q cI cD (nI 0) (nI n) (nI 0) hh u.1 u.2.1 fw u.2.2 fr ff fp fl fc) t.heap) (qA q)) 0 0 (qA q) := by
  refine met_intro (cc := cX1_scale) (maxL := 4) (ret := (some .int)) (own := RX1) (by decide) rfl rfl (Nat.le_of_ble_eq_true rfl) ?_
  intro pp ee ss mm args below meth cd Q ls hQ S hr hlocks hv hB hl
  obtain ⟨hx, hb, hml, hown, hts⟩ := id S
  obtain ⟨hP, hK⟩ := hB
  have in_w : ∀ w ∈ wsX10, w ∈ wsX1_scale := by decide +kernel
  have fl_7 : Cond.fieldLink RX1 7 RX1 (TX1 1).2.1 (TX1 1).2.2.1 ∈ wsX1_scale := by decide +kernel
  have fl_13 : Cond.fieldLink RX1 13 RX1 (TX1 2).2.1 (TX1 2).2.2.1 ∈ wsX1_scale := by decide +kernel
  have fl_17 : Cond.fieldLink RX1 17 RX1 (TX1 3).2.1 (TX1 3).2.2.1 ∈ wsX1_scale := by decide +kernel
  have fl_45 : Cond.fieldLink RX1 45 RX1 (TX1 0).2.1 (TX1 0).2.2.1 ∈ wsX1_scale := by decide +kernel
  have hS : va_S (qA q) ss.heap ss.heap [] := va_S.rf
  generalize hHg : ss.heap = H at hP
  have hS : va_S (qA q) ss.heap H [] := by rw [← hHg]; exact hS
  suffices hgo : ∀ locs : List Loc, va_S (qA q) ss.heap H locs → W pp l ee rX1_scale ss mm args below meth cd H locs 0 0 Q (F0 mm 0 ls []) by
    first | exact hgo [] hS | (rw [hHg]; exact hgo [] hS)
  clear hS
  intro locs hS
  have hl : lv_has ls 4 [(0, .ref (q 0)), (1, .int x)] := hl
  refine lv_aload_n hx hb dX1_scale_0 rfl (lv_at hl 0 rfl) ?_
  refine lv_iload_n hx hb dX1_scale_1 rfl (lv_at hl 1 rfl) ?_
  refine lv_iconst (v := nI 0) hx hb dX1_scale_2 (by decide) ?_
  refine lv_sipush (v := nI 300) hx hb dX1_scale_3 (by decide) ?_
  refine vp_callSi (W.runS (As := [.int x, .int (nI 0), .int (nI 300)]) (rest := [.ref (q 0)]) S (c_X1_within (v := x) (a := nI 0) (b := nI 300)) (va_cwS 3 hts gX1_scale_X1_within rfl rfl rfl hdX1_within ⟨Nat.le_of_ble_eq_true rfl, Nat.le_of_ble_eq_true rfl⟩) preS rfl rfl hl.1 rfl (lv_room (Nat.le_of_ble_eq_true rfl)) dX1_scale_6 ⟨Nat.zero_le _, Nat.zero_le _⟩) (fun r_1 er_1 => ?_)
  subst er_1
  refine w_ifBne (tgt := 16) hx hb dX1_scale_9 (by decide) (fun h9_0 => ?_) (fun h9_0 => absurd (hxx) (by rw [h9_0]; decide))
  refine lv_aload_n hx hb dX1_scale_16 rfl (lv_at hl 0 rfl) ?_
  refine lv_iload_n hx hb dX1_scale_17 rfl (lv_at hl 1 rfl) ?_
  refine vp_callSi (W.runV (As := [.int x]) (rest := [.ref (q 0)]) S (c_X1_isScalable hn hI hO (x := x)) (cwV 1 hts gX1_scale_X1_isScalable rfl rfl rfl hdX1_isScalable ⟨Nat.le_of_ble_eq_true rfl, Nat.le_of_ble_eq_true rfl⟩) (preV hK hP rfl rfl) rfl rfl hl.1 rfl (lv_room (Nat.le_of_ble_eq_true rfl)) dX1_scale_18 ⟨Nat.zero_le _, Nat.zero_le _⟩) (fun r_2 er_2 => ?_)
  subst er_2
  refine w_ifBeq (tgt := 28) hx hb dX1_scale_21 (by decide) (fun h21_1 => absurd (hsl) (by rw [h21_1]; decide)) (fun h21_1 => ?_)
  refine lv_iconst (v := nI 0) hx hb dX1_scale_24 (by decide) ?_
  refine lv_goto (tgt := 29) hx hb dX1_scale_25 (by decide) ?_
  refine w_putM (v := .int (nI 0)) (ty := .int) S in_w hK hP (wD_of hq rfl) hS rfl 0 (by decide) fl_45 rfl (by decide +kernel) rfl rfl (Nat.le_of_ble_eq_true rfl) rfl dX1_scale_29 (fun H locs hP hS => ?_)
  have hP : va_P D cls2 (mW q cI cD (nI 0) (nI n) rC hh fi fo fw fe fr ff fp fl fc) H := hP
  refine lv_aload_n hx hb dX1_scale_32 rfl (lv_at hl 0 rfl) ?_
  refine w_getM (own := RX1) (v := .int (nI 0)) S in_w hK hP rfl 0 (by decide) fl_45 rfl rfl dX1_scale_33 ?_
  refine lv_if_le (tgt := 41) hx hb dX1_scale_36 (by decide) (fun h36_2 => ?_) (fun h36_2 => absurd (by decide) h36_2)
  refine lv_iconst (v := nI 0) hx hb dX1_scale_41 (by decide) ?_
  refine lv_istore_n (lv' := [(2, .int (nI 0)), (0, .ref (q 0)), (1, .int x)]) hx hb dX1_scale_42 rfl hl (by decide) rfl (fun ls hl => ?_)
  refine lv_iconst (v := nI 0) hx hb dX1_scale_43 (by decide) ?_
  refine lv_istore_n (lv' := [(3, .int (nI 0)), (2, .int (nI 0)), (0, .ref (q 0)), (1, .int x)]) hx hb dX1_scale_44 rfl hl (by decide) rfl (fun ls hl => ?_)
  have lp45 : ∀ (j k : Nat), k + j = n → ∀ (fi : Nat → Int32), ∀ (fo : Nat → Int32), ∀ (H : Heap) (locs : List Loc), ag1 n fi (scO x k inf) → ag1 n fo (scO x k out) → va_P D cls2 (mW q cI cD (nI 0) (nI n) rC hh fi fo fw fe fr ff fp fl fc) H → va_S (qA q) ss.heap H locs → ∀ ls : Array Slot, lv_has ls 4 [(0, .ref (q 0)), (1, .int x), (2, .int (mscS inf x k)), (3, .int (nI k))] → W pp l ee rX1_scale ss mm args below meth cd H locs 0 0 Q (F0 mm 45 ls []) := by
    intro j
    induction j with
    | zero =>
      intro k hk_k fi fo H locs hg_fi hg_fo hP hS ls hl
      have hke_k : n = k := by omega
      subst hke_k
      refine lv_iload_n hx hb dX1_scale_45 rfl (lv_at hl 3 rfl) ?_
      refine lv_aload_n hx hb dX1_scale_46 rfl (lv_at hl 0 rfl) ?_
      refine w_getM (own := RX1) (v := .int (nI n)) S in_w hK hP rfl 1 (by decide) fl_7 rfl rfl dX1_scale_47 ?_
      refine lv_icmp_ge (tgt := 100) hx hb dX1_scale_50 (by decide) (fun h50_3 => ?_) (fun h50_3 => absurd (Int32.le_refl _) h50_3)
      refine lv_aload_n hx hb dX1_scale_100 rfl (lv_at hl 0 rfl) ?_
      refine va_callv (va_runV (As := []) (rest := []) S (c_X1_layWeights hq) (cwV 0 hts gX1_scale_X1_layWeights rfl rfl rfl hdX1_layWeights ⟨Nat.le_of_ble_eq_true rfl, Nat.le_of_ble_eq_true rfl⟩) (preV hK hP rfl rfl) rfl rfl hl.1 rfl (lv_room (Nat.le_of_ble_eq_true rfl)) dX1_scale_101 ⟨Nat.zero_le _, Nat.zero_le _⟩) hS (fun _ _ h => h) (fun _ h => h) (fun u_4 t H locs ht hvm hw_5 hB hz1 hk1 hS => ?_)
      replace hB : va_P D cls2 _ t.heap := hB
      rw [ht] at hB
      subst hw_5
      have hP : va_P D cls2 (mW q cI cD (nI 0) (nI n) (nI 0) hh fi fo fw (lwR fw 36 fe) fr ff fp fl fc) H := hB
      refine lv_iload_n hx hb dX1_scale_104 rfl (lv_at hl 2 rfl) ?_
      subst hQ
      exact W.iret hx hb hr (fun t ht hWm => ⟨⟨_, (fi, fo, lwR fw 36 fe), rfl, ⟨rfl, hg_fi, hg_fo, (lwR_ag hn.2 hW)⟩, (show va_P D cls2 _ t.heap from by rw [ht]; exact hP)⟩, hS.F ht⟩) hS.2.2 dX1_scale_105
    | succ j ih =>
      intro k hk_k fi fo H locs hg_fi hg_fo hP hS ls hl
      have hlt_k : k < n := by omega
      refine lv_iload_n hx hb dX1_scale_45 rfl (lv_at hl 3 rfl) ?_
      refine lv_aload_n hx hb dX1_scale_46 rfl (lv_at hl 0 rfl) ?_
      refine w_getM (own := RX1) (v := .int (nI n)) S in_w hK hP rfl 1 (by decide) fl_7 rfl rfl dX1_scale_47 ?_
      refine lv_icmp_ge (tgt := 100) hx hb dX1_scale_50 (by decide) (fun h50_3 => absurd h50_3 (nI_ge hlt_k (by omega))) (fun h50_3 => ?_)
      refine lv_aload_n hx hb dX1_scale_53 rfl (lv_at hl 0 rfl) ?_
      refine w_getM (own := RX1) (v := .ref (q 1)) S in_w hK hP rfl 2 (by decide) fl_13 rfl rfl dX1_scale_54 ?_
      refine lv_iload_n hx hb dX1_scale_57 rfl (lv_at hl 3 rfl) ?_
      refine lv_aload_n hx hb dX1_scale_58 rfl (lv_at hl 0 rfl) ?_
      refine w_getM (own := RX1) (v := .ref (q 1)) S in_w hK hP rfl 2 (by decide) fl_13 rfl rfl dX1_scale_59 ?_
      refine lv_iload_n hx hb dX1_scale_62 rfl (lv_at hl 3 rfl) ?_
      refine w_iald hx hb hK hP 1 0 rfl rfl (j := k) (v := (scO x k inf) k) (hg_fi k (by omega)) (by omega) (by decide) dX1_scale_63 ?_
      refine lv_iload_n hx hb dX1_scale_64 rfl (lv_at hl 1 rfl) ?_
      refine vp_callSi (W.runS (As := [.int ((scO x k inf) k), .int x]) (rest := [.int (nI k), .ref (q 1)]) S (c_X1_scaled (a := (scO x k inf) k) (b := x)) (va_cwS 2 hts gX1_scale_X1_scaled rfl rfl rfl hdX1_scaled ⟨Nat.le_of_ble_eq_true rfl, Nat.le_of_ble_eq_true rfl⟩) preS rfl rfl hl.1 rfl (lv_room (Nat.le_of_ble_eq_true rfl)) dX1_scale_65 ⟨Nat.zero_le _, Nat.zero_le _⟩) (fun r_6 er_6 => ?_)
      subst er_6
      refine w_iast hx hb hK hP (wD_of hq rfl) hS 1 0 rfl rfl (j := k) (x := scl ((scO x k inf) k) x) (by omega) (by decide) dX1_scale_68 (fun H locs hP _ hS => ?_)
      have hP : va_P D cls2 (mW q cI cD (nI 0) (nI n) rC hh (upd fi k (scl ((scO x k inf) k) x)) fo fw fe fr ff fp fl fc) H := hP
      have g_8 : ag1 n (upd fi k (scl ((scO x k inf) k) x)) (upd (scO x k inf) k (scl ((scO x k inf) k) x)) := (ag1_upd hg_fi k (scl ((scO x k inf) k) x))
      generalize (upd fi k (scl ((scO x k inf) k) x)) = a_7 at hP g_8
      refine lv_aload_n hx hb dX1_scale_69 rfl (lv_at hl 0 rfl) ?_
      refine w_getM (own := RX1) (v := .ref (q 2)) S in_w hK hP rfl 3 (by decide) fl_17 rfl rfl dX1_scale_70 ?_
      refine lv_iload_n hx hb dX1_scale_73 rfl (lv_at hl 3 rfl) ?_
      refine lv_aload_n hx hb dX1_scale_74 rfl (lv_at hl 0 rfl) ?_
      refine w_getM (own := RX1) (v := .ref (q 2)) S in_w hK hP rfl 3 (by decide) fl_17 rfl rfl dX1_scale_75 ?_
      refine lv_iload_n hx hb dX1_scale_78 rfl (lv_at hl 3 rfl) ?_
      refine w_iald hx hb hK hP 2 0 rfl rfl (j := k) (v := (scO x k out) k) (hg_fo k (by omega)) (by omega) (by decide) dX1_scale_79 ?_
      refine lv_iload_n hx hb dX1_scale_80 rfl (lv_at hl 1 rfl) ?_
      refine vp_callSi (W.runS (As := [.int ((scO x k out) k), .int x]) (rest := [.int (nI k), .ref (q 2)]) S (c_X1_scaled (a := (scO x k out) k) (b := x)) (va_cwS 2 hts gX1_scale_X1_scaled rfl rfl rfl hdX1_scaled ⟨Nat.le_of_ble_eq_true rfl, Nat.le_of_ble_eq_true rfl⟩) preS rfl rfl hl.1 rfl (lv_room (Nat.le_of_ble_eq_true rfl)) dX1_scale_81 ⟨Nat.zero_le _, Nat.zero_le _⟩) (fun r_9 er_9 => ?_)
      subst er_9
      refine w_iast hx hb hK hP (wD_of hq rfl) hS 2 0 rfl rfl (j := k) (x := scl ((scO x k out) k) x) (by omega) (by decide) dX1_scale_84 (fun H locs hP _ hS => ?_)
      have hP : va_P D cls2 (mW q cI cD (nI 0) (nI n) rC hh a_7 (upd fo k (scl ((scO x k out) k) x)) fw fe fr ff fp fl fc) H := hP
      have g_11 : ag1 n (upd fo k (scl ((scO x k out) k) x)) (upd (scO x k out) k (scl ((scO x k out) k) x)) := (ag1_upd hg_fo k (scl ((scO x k out) k) x))
      generalize (upd fo k (scl ((scO x k out) k) x)) = a_10 at hP g_11
      refine lv_iload_n hx hb dX1_scale_85 rfl (lv_at hl 2 rfl) ?_
      refine lv_aload_n hx hb dX1_scale_86 rfl (lv_at hl 0 rfl) ?_
      refine w_getM (own := RX1) (v := .ref (q 1)) S in_w hK hP rfl 2 (by decide) fl_13 rfl rfl dX1_scale_87 ?_
      refine lv_iload_n hx hb dX1_scale_90 rfl (lv_at hl 3 rfl) ?_
      refine w_iald hx hb hK hP 1 0 rfl rfl (j := k) (v := scl ((scO x k inf) k) x) ((g_8 k (by omega)).trans (upd_self _ _ _)) (by omega) (by decide) dX1_scale_91 ?_
      refine lv_iadd hx hb dX1_scale_92 ?_
      refine lv_istore_n (lv' := [(2, .int ((mscS inf x k) + (scl ((scO x k inf) k) x))), (0, .ref (q 0)), (1, .int x), (3, .int (nI k))]) hx hb dX1_scale_93 rfl hl (by decide) rfl (fun ls hl => ?_)
      refine lv_iinc (v := nI (k + 1)) (lv' := [(3, .int (nI (k + 1))), (2, .int ((mscS inf x k) + (scl ((scO x k inf) k) x))), (0, .ref (q 0)), (1, .int x)]) hx hb dX1_scale_94 hl (k := 3) rfl (by rw [show Int32.ofInt 1 = nI 1 from by decide, nI_add]) (by decide) rfl (fun ls hl => ?_)
      refine lv_goto (tgt := 45) hx hb dX1_scale_97 (by decide) ?_
      have eq_12 : mscS inf x (k + 1) = (mscS inf x k) + (scl ((scO x k inf) k) x) := by rfl
      have eq_13 : scO x (k + 1) inf = upd (scO x k inf) k (scl ((scO x k inf) k) x) := by rfl
      have eq_14 : scO x (k + 1) out = upd (scO x k out) k (scl ((scO x k out) k) x) := by rfl
      have hl : lv_has ls 4 [(3, .int (nI (k + 1))), (2, .int (mscS inf x (k + 1))), (0, .ref (q 0)), (1, .int x)] := by first | exact hl | (rw [eq_12]; exact hl)
      exact ih (k + 1) (by omega) _ _ _ _ (by rw [eq_13]; exact g_8) (by rw [eq_14]; exact g_11) hP hS ls (lv_sub hl [2, 3, 1, 0] rfl)
  exact lp45 (n - 0) 0 (by omega) _ _ _ _ hI hO hP hS ls (lv_sub hl [2, 3, 1, 0] rfl)
set_option maxHeartbeats 4000000 in
set_option maxRecDepth 100000 in
theorem c_X1_scalex1 {l : Launch} {D : va_G} {q : Nat → Nat} {cI cD : ClassId} {th rC : Int32} {hh : Int64} {fi fo fw : Nat → Int32} {fe : Nat → UInt64} {fr : Nat → Int32} {ff : Nat → UInt64} {fp fl fc : Nat → Int32} {n : Nat} (hn : 3 ≤ n ∧ n ≤ 6) {x : Int32} (hxx : wth x (nI 0) (nI 300) = false) (hq : qD q) : Met l yX1_scale wsX1_scale rX1_scale (va_Pc [.ref (q 0), .int x] (wPre D (tys2 cI cD) (mW q cI cD th (nI n) rC hh fi fo fw fe fr ff fp fl fc))) (va_Qi (fun r (u : Unit) => True) (fun u t => va_P D cls2 (mW q cI cD (nI 1) (nI n) rC hh fi fo fw fe fr ff fp fl fc) t.heap) (qA q)) 0 0 (qA q) := by
  refine met_intro (cc := cX1_scale) (maxL := 4) (ret := (some .int)) (own := RX1) (by decide) rfl rfl (Nat.le_of_ble_eq_true rfl) ?_
  intro pp ee ss mm args below meth cd Q ls hQ S hr hlocks hv hB hl
  obtain ⟨hx, hb, hml, hown, hts⟩ := id S
  obtain ⟨hP, hK⟩ := hB
  have in_w : ∀ w ∈ wsX10, w ∈ wsX1_scale := by decide +kernel
  have fl_45 : Cond.fieldLink RX1 45 RX1 (TX1 0).2.1 (TX1 0).2.2.1 ∈ wsX1_scale := by decide +kernel
  have hS : va_S (qA q) ss.heap ss.heap [] := va_S.rf
  generalize hHg : ss.heap = H at hP
  have hS : va_S (qA q) ss.heap H [] := by rw [← hHg]; exact hS
  suffices hgo : ∀ locs : List Loc, va_S (qA q) ss.heap H locs → W pp l ee rX1_scale ss mm args below meth cd H locs 0 0 Q (F0 mm 0 ls []) by
    first | exact hgo [] hS | (rw [hHg]; exact hgo [] hS)
  clear hS
  intro locs hS
  have hl : lv_has ls 4 [(0, .ref (q 0)), (1, .int x)] := hl
  refine lv_aload_n hx hb dX1_scale_0 rfl (lv_at hl 0 rfl) ?_
  refine lv_iload_n hx hb dX1_scale_1 rfl (lv_at hl 1 rfl) ?_
  refine lv_iconst (v := nI 0) hx hb dX1_scale_2 (by decide) ?_
  refine lv_sipush (v := nI 300) hx hb dX1_scale_3 (by decide) ?_
  refine vp_callSi (W.runS (As := [.int x, .int (nI 0), .int (nI 300)]) (rest := [.ref (q 0)]) S (c_X1_within (v := x) (a := nI 0) (b := nI 300)) (va_cwS 3 hts gX1_scale_X1_within rfl rfl rfl hdX1_within ⟨Nat.le_of_ble_eq_true rfl, Nat.le_of_ble_eq_true rfl⟩) preS rfl rfl hl.1 rfl (lv_room (Nat.le_of_ble_eq_true rfl)) dX1_scale_6 ⟨Nat.zero_le _, Nat.zero_le _⟩) (fun r_1 er_1 => ?_)
  subst er_1
  refine w_ifBne (tgt := 16) hx hb dX1_scale_9 (by decide) (fun h9_0 => absurd (hxx) (by rw [h9_0]; decide)) (fun h9_0 => ?_)
  refine lv_iconst (v := nI 1) hx hb dX1_scale_12 (by decide) ?_
  refine lv_goto (tgt := 29) hx hb dX1_scale_13 (by decide) ?_
  refine w_putM (v := .int (nI 1)) (ty := .int) S in_w hK hP (wD_of hq rfl) hS rfl 0 (by decide) fl_45 rfl (by decide +kernel) rfl rfl (Nat.le_of_ble_eq_true rfl) rfl dX1_scale_29 (fun H locs hP hS => ?_)
  have hP : va_P D cls2 (mW q cI cD (nI 1) (nI n) rC hh fi fo fw fe fr ff fp fl fc) H := hP
  refine lv_aload_n hx hb dX1_scale_32 rfl (lv_at hl 0 rfl) ?_
  refine w_getM (own := RX1) (v := .int (nI 1)) S in_w hK hP rfl 0 (by decide) fl_45 rfl rfl dX1_scale_33 ?_
  refine lv_if_le (tgt := 41) hx hb dX1_scale_36 (by decide) (fun h36_1 => absurd h36_1 (by decide)) (fun h36_1 => ?_)
  refine lv_iconst (v := nI 0) hx hb dX1_scale_39 (by decide) ?_
  subst hQ
  exact W.iret hx hb hr (fun t ht hWm => ⟨⟨_, (), rfl, trivial, (show va_P D cls2 _ t.heap from by rw [ht]; exact hP)⟩, hS.F ht⟩) hS.2.2 dX1_scale_40
set_option maxHeartbeats 4000000 in
set_option maxRecDepth 100000 in
theorem c_X1_scalex2 {l : Launch} {D : va_G} {q : Nat → Nat} {cI cD : ClassId} {th rC : Int32} {hh : Int64} {fi fo fw : Nat → Int32} {fe : Nat → UInt64} {fr : Nat → Int32} {ff : Nat → UInt64} {fp fl fc : Nat → Int32} {n : Nat} (hn : 3 ≤ n ∧ n ≤ 6) {inf : Nat → Int32} (hI : ag1 n fi inf) {out : Nat → Int32} (hO : ag1 n fo out) {x : Int32} (hxx : wth x (nI 0) (nI 300) = true) (hsl : slB inf out x n = false) (hq : qD q) : Met l yX1_scale wsX1_scale rX1_scale (va_Pc [.ref (q 0), .int x] (wPre D (tys2 cI cD) (mW q cI cD th (nI n) rC hh fi fo fw fe fr ff fp fl fc))) (va_Qi (fun r (u : Unit) => True) (fun u t => va_P D cls2 (mW q cI cD (nI 2) (nI n) rC hh fi fo fw fe fr ff fp fl fc) t.heap) (qA q)) 0 0 (qA q) := by
  refine met_intro (cc := cX1_scale) (maxL := 4) (ret := (some .int)) (own := RX1) (by decide) rfl rfl (Nat.le_of_ble_eq_true rfl) ?_
  intro pp ee ss mm args below meth cd Q ls hQ S hr hlocks hv hB hl
  obtain ⟨hx, hb, hml, hown, hts⟩ := id S
  obtain ⟨hP, hK⟩ := hB
  have in_w : ∀ w ∈ wsX10, w ∈ wsX1_scale := by decide +kernel
  have fl_45 : Cond.fieldLink RX1 45 RX1 (TX1 0).2.1 (TX1 0).2.2.1 ∈ wsX1_scale := by decide +kernel
  have hS : va_S (qA q) ss.heap ss.heap [] := va_S.rf
  generalize hHg : ss.heap = H at hP
  have hS : va_S (qA q) ss.heap H [] := by rw [← hHg]; exact hS
  suffices hgo : ∀ locs : List Loc, va_S (qA q) ss.heap H locs → W pp l ee rX1_scale ss mm args below meth cd H locs 0 0 Q (F0 mm 0 ls []) by
    first | exact hgo [] hS | (rw [hHg]; exact hgo [] hS)
  clear hS
  intro locs hS
  have hl : lv_has ls 4 [(0, .ref (q 0)), (1, .int x)] := hl
  refine lv_aload_n hx hb dX1_scale_0 rfl (lv_at hl 0 rfl) ?_
  refine lv_iload_n hx hb dX1_scale_1 rfl (lv_at hl 1 rfl) ?_
  refine lv_iconst (v := nI 0) hx hb dX1_scale_2 (by decide) ?_
  refine lv_sipush (v := nI 300) hx hb dX1_scale_3 (by decide) ?_
  refine vp_callSi (W.runS (As := [.int x, .int (nI 0), .int (nI 300)]) (rest := [.ref (q 0)]) S (c_X1_within (v := x) (a := nI 0) (b := nI 300)) (va_cwS 3 hts gX1_scale_X1_within rfl rfl rfl hdX1_within ⟨Nat.le_of_ble_eq_true rfl, Nat.le_of_ble_eq_true rfl⟩) preS rfl rfl hl.1 rfl (lv_room (Nat.le_of_ble_eq_true rfl)) dX1_scale_6 ⟨Nat.zero_le _, Nat.zero_le _⟩) (fun r_1 er_1 => ?_)
  subst er_1
  refine w_ifBne (tgt := 16) hx hb dX1_scale_9 (by decide) (fun h9_0 => ?_) (fun h9_0 => absurd (hxx) (by rw [h9_0]; decide))
  refine lv_aload_n hx hb dX1_scale_16 rfl (lv_at hl 0 rfl) ?_
  refine lv_iload_n hx hb dX1_scale_17 rfl (lv_at hl 1 rfl) ?_
  refine vp_callSi (W.runV (As := [.int x]) (rest := [.ref (q 0)]) S (c_X1_isScalable hn hI hO (x := x)) (cwV 1 hts gX1_scale_X1_isScalable rfl rfl rfl hdX1_isScalable ⟨Nat.le_of_ble_eq_true rfl, Nat.le_of_ble_eq_true rfl⟩) (preV hK hP rfl rfl) rfl rfl hl.1 rfl (lv_room (Nat.le_of_ble_eq_true rfl)) dX1_scale_18 ⟨Nat.zero_le _, Nat.zero_le _⟩) (fun r_2 er_2 => ?_)
  subst er_2
  refine w_ifBeq (tgt := 28) hx hb dX1_scale_21 (by decide) (fun h21_1 => ?_) (fun h21_1 => absurd (hsl) (by rw [h21_1]; decide))
  refine lv_iconst (v := nI 2) hx hb dX1_scale_28 (by decide) ?_
  refine w_putM (v := .int (nI 2)) (ty := .int) S in_w hK hP (wD_of hq rfl) hS rfl 0 (by decide) fl_45 rfl (by decide +kernel) rfl rfl (Nat.le_of_ble_eq_true rfl) rfl dX1_scale_29 (fun H locs hP hS => ?_)
  have hP : va_P D cls2 (mW q cI cD (nI 2) (nI n) rC hh fi fo fw fe fr ff fp fl fc) H := hP
  refine lv_aload_n hx hb dX1_scale_32 rfl (lv_at hl 0 rfl) ?_
  refine w_getM (own := RX1) (v := .int (nI 2)) S in_w hK hP rfl 0 (by decide) fl_45 rfl rfl dX1_scale_33 ?_
  refine lv_if_le (tgt := 41) hx hb dX1_scale_36 (by decide) (fun h36_2 => absurd h36_2 (by decide)) (fun h36_2 => ?_)
  refine lv_iconst (v := nI 0) hx hb dX1_scale_39 (by decide) ?_
  subst hQ
  exact W.iret hx hb hr (fun t ht hWm => ⟨⟨_, (), rfl, trivial, (show va_P D cls2 _ t.heap from by rw [ht]; exact hP)⟩, hS.F ht⟩) hS.2.2 dX1_scale_40
abbrev rX1_difference : Room := { frames := 0, cells := 0, slots := 0, locals := 0 }
theorem hdX1_difference : yX1_difference.cls = RX1 ∧ yX1_difference.cls ≠ "java/lang/invoke/MethodHandle" ∧ yX1_difference.cls ≠ "java/lang/invoke/VarHandle" ∧ (parseMethodDescriptor yX1_difference.desc).map (fun d => d.parameters.length) = some 0 := by decide +kernel
set_option maxHeartbeats 4000000 in
set_option maxRecDepth 100000 in
theorem c_X1_difference {l : Launch} {D : va_G} {q : Nat → Nat} {cI cD : ClassId} {th rC : Int32} {hh : Int64} {fi fo fw : Nat → Int32} {fe : Nat → UInt64} {fr : Nat → Int32} {ff : Nat → UInt64} {fp fl fc : Nat → Int32} {n : Nat} (hn : 3 ≤ n ∧ n ≤ 6) {inf : Nat → Int32} (hI : ag1 n fi inf) {out : Nat → Int32} (hO : ag1 n fo out)  : Met l yX1_difference wsX1_difference rX1_difference (va_Pc [.ref (q 0)] (wPre D (tys2 cI cD) (mW q cI cD th (nI n) rC hh fi fo fw fe fr ff fp fl fc))) (vp_Si (fun r => r = dif n inf out)) 0 0 (fun _ => False) := by
  refine met_intro (cc := cX1_difference) (maxL := 3) (ret := (some .int)) (own := RX1) (by decide) rfl rfl (Nat.le_of_ble_eq_true rfl) ?_
  intro pp ee ss mm args below meth cd Q ls hQ S hr hlocks hv hB hl
  obtain ⟨hx, hb, hml, hown, hts⟩ := id S
  obtain ⟨hP, hK⟩ := hB
  have in_w : ∀ w ∈ wsX10, w ∈ wsX1_difference := by decide +kernel
  have fl_7 : Cond.fieldLink RX1 7 RX1 (TX1 1).2.1 (TX1 1).2.2.1 ∈ wsX1_difference := by decide +kernel
  have fl_13 : Cond.fieldLink RX1 13 RX1 (TX1 2).2.1 (TX1 2).2.2.1 ∈ wsX1_difference := by decide +kernel
  have fl_17 : Cond.fieldLink RX1 17 RX1 (TX1 3).2.1 (TX1 3).2.2.1 ∈ wsX1_difference := by decide +kernel
  have hl : lv_has ls 3 [(0, .ref (q 0))] := hl
  refine lv_iconst (v := nI 0) hx hb dX1_difference_0 (by decide) ?_
  refine lv_istore_n (lv' := [(1, .int (nI 0)), (0, .ref (q 0))]) hx hb dX1_difference_1 rfl hl (by decide) rfl (fun ls hl => ?_)
  refine lv_iconst (v := nI 0) hx hb dX1_difference_2 (by decide) ?_
  refine lv_istore_n (lv' := [(2, .int (nI 0)), (1, .int (nI 0)), (0, .ref (q 0))]) hx hb dX1_difference_3 rfl hl (by decide) rfl (fun ls hl => ?_)
  have lp4 : ∀ (j k : Nat), k + j = n → ∀ ls : Array Slot, lv_has ls 3 [(0, .ref (q 0)), (1, .int (difS inf out k)), (2, .int (nI k))] → W pp l ee rX1_difference ss mm args below meth cd ss.heap [] 0 0 Q (F0 mm 4 ls []) := by
    intro j
    induction j with
    | zero =>
      intro k hk_k ls hl
      have hke_k : n = k := by omega
      subst hke_k
      refine lv_iload_n hx hb dX1_difference_4 rfl (lv_at hl 2 rfl) ?_
      refine lv_aload_n hx hb dX1_difference_5 rfl (lv_at hl 0 rfl) ?_
      refine w_getM (own := RX1) (v := .int (nI n)) S in_w hK hP rfl 1 (by decide) fl_7 rfl rfl dX1_difference_6 ?_
      refine lv_icmp_ge (tgt := 34) hx hb dX1_difference_9 (by decide) (fun h9_0 => ?_) (fun h9_0 => absurd (Int32.le_refl _) h9_0)
      refine lv_iload_n hx hb dX1_difference_34 rfl (lv_at hl 1 rfl) ?_
      subst hQ
      exact W.iret hx hb hr (fun t ht hWm => ⟨_, rfl, (difS_eq inf out n), ht⟩) (fun q h => absurd h List.not_mem_nil) dX1_difference_35
    | succ j ih =>
      intro k hk_k ls hl
      have hlt_k : k < n := by omega
      refine lv_iload_n hx hb dX1_difference_4 rfl (lv_at hl 2 rfl) ?_
      refine lv_aload_n hx hb dX1_difference_5 rfl (lv_at hl 0 rfl) ?_
      refine w_getM (own := RX1) (v := .int (nI n)) S in_w hK hP rfl 1 (by decide) fl_7 rfl rfl dX1_difference_6 ?_
      refine lv_icmp_ge (tgt := 34) hx hb dX1_difference_9 (by decide) (fun h9_0 => absurd h9_0 (nI_ge hlt_k (by omega))) (fun h9_0 => ?_)
      refine lv_iload_n hx hb dX1_difference_12 rfl (lv_at hl 1 rfl) ?_
      refine lv_aload_n hx hb dX1_difference_13 rfl (lv_at hl 0 rfl) ?_
      refine w_getM (own := RX1) (v := .ref (q 1)) S in_w hK hP rfl 2 (by decide) fl_13 rfl rfl dX1_difference_14 ?_
      refine lv_iload_n hx hb dX1_difference_17 rfl (lv_at hl 2 rfl) ?_
      refine w_iald hx hb hK hP 1 0 rfl rfl (j := k) (v := inf k) (hI k (by omega)) (by omega) (by decide) dX1_difference_18 ?_
      refine lv_aload_n hx hb dX1_difference_19 rfl (lv_at hl 0 rfl) ?_
      refine w_getM (own := RX1) (v := .ref (q 2)) S in_w hK hP rfl 3 (by decide) fl_17 rfl rfl dX1_difference_20 ?_
      refine lv_iload_n hx hb dX1_difference_23 rfl (lv_at hl 2 rfl) ?_
      refine w_iald hx hb hK hP 2 0 rfl rfl (j := k) (v := out k) (hO k (by omega)) (by omega) (by decide) dX1_difference_24 ?_
      refine lv_isub hx hb dX1_difference_25 ?_
      refine lv_iadd hx hb dX1_difference_26 ?_
      refine lv_istore_n (lv' := [(1, .int ((difS inf out k) + ((inf k) - (out k)))), (0, .ref (q 0)), (2, .int (nI k))]) hx hb dX1_difference_27 rfl hl (by decide) rfl (fun ls hl => ?_)
      refine lv_iinc (v := nI (k + 1)) (lv' := [(2, .int (nI (k + 1))), (1, .int ((difS inf out k) + ((inf k) - (out k)))), (0, .ref (q 0))]) hx hb dX1_difference_28 hl (k := 2) rfl (by rw [show Int32.ofInt 1 = nI 1 from by decide, nI_add]) (by decide) rfl (fun ls hl => ?_)
      refine lv_goto (tgt := 4) hx hb dX1_difference_31 (by decide) ?_
      have eq_1 : difS inf out (k + 1) = (difS inf out k) + ((inf k) - (out k)) := by rfl
      have hl : lv_has ls 3 [(2, .int (nI (k + 1))), (1, .int (difS inf out (k + 1))), (0, .ref (q 0))] := by first | exact hl | (rw [eq_1]; exact hl)
      exact ih (k + 1) (by omega) ls (lv_sub hl [2, 1, 0] rfl)
  exact lp4 (n - 0) 0 (by omega) ls (lv_sub hl [2, 1, 0] rfl)
abbrev rX1_imbalance : Room := { frames := 1, cells := 0, slots := 0, locals := 22 }
theorem hdX1_imbalance : yX1_imbalance.cls = RX1 ∧ yX1_imbalance.cls ≠ "java/lang/invoke/MethodHandle" ∧ yX1_imbalance.cls ≠ "java/lang/invoke/VarHandle" ∧ (parseMethodDescriptor yX1_imbalance.desc).map (fun d => d.parameters.length) = some 0 := by decide +kernel
set_option maxHeartbeats 4000000 in
set_option maxRecDepth 100000 in
theorem c_X1_imbalance {l : Launch} {D : va_G} {q : Nat → Nat} {cI cD : ClassId} {th rC : Int32} {hh : Int64} {fi fo fw : Nat → Int32} {fe : Nat → UInt64} {fr : Nat → Int32} {ff : Nat → UInt64} {fp fl fc : Nat → Int32} {n : Nat} (hn : 3 ≤ n ∧ n ≤ 6) {inf : Nat → Int32} (hI : ag1 n fi inf) {out : Nat → Int32} (hO : ag1 n fo out)  (hq : qD q) : Met l yX1_imbalance wsX1_imbalance rX1_imbalance (va_Pc [.ref (q 0)] (wPre D (tys2 cI cD) (mW q cI cD th (nI n) rC hh fi fo fw fe fr ff fp fl fc))) (va_Qi (fun r (u : Unit) => r = dif n inf out) (fun u t => va_P D cls2 (mW q cI cD (nI 0) (nI n) rC hh fi fo fw fe fr ff fp fl fc) t.heap) (qA q)) 0 0 (qA q) := by
  refine met_intro (cc := cX1_imbalance) (maxL := 1) (ret := (some .int)) (own := RX1) (by decide) rfl rfl (Nat.le_of_ble_eq_true rfl) ?_
  intro pp ee ss mm args below meth cd Q ls hQ S hr hlocks hv hB hl
  obtain ⟨hx, hb, hml, hown, hts⟩ := id S
  obtain ⟨hP, hK⟩ := hB
  have in_w : ∀ w ∈ wsX10, w ∈ wsX1_imbalance := by decide +kernel
  have fl_45 : Cond.fieldLink RX1 45 RX1 (TX1 0).2.1 (TX1 0).2.2.1 ∈ wsX1_imbalance := by decide +kernel
  have hS : va_S (qA q) ss.heap ss.heap [] := va_S.rf
  generalize hHg : ss.heap = H at hP
  have hS : va_S (qA q) ss.heap H [] := by rw [← hHg]; exact hS
  suffices hgo : ∀ locs : List Loc, va_S (qA q) ss.heap H locs → W pp l ee rX1_imbalance ss mm args below meth cd H locs 0 0 Q (F0 mm 0 ls []) by
    first | exact hgo [] hS | (rw [hHg]; exact hgo [] hS)
  clear hS
  intro locs hS
  have hl : lv_has ls 1 [(0, .ref (q 0))] := hl
  refine lv_aload_n hx hb dX1_imbalance_0 rfl (lv_at hl 0 rfl) ?_
  refine lv_iconst (v := nI 0) hx hb dX1_imbalance_1 (by decide) ?_
  refine w_putM (v := .int (nI 0)) (ty := .int) S in_w hK hP (wD_of hq rfl) hS rfl 0 (by decide) fl_45 rfl (by decide +kernel) rfl rfl (Nat.le_of_ble_eq_true rfl) rfl dX1_imbalance_2 (fun H locs hP hS => ?_)
  have hP : va_P D cls2 (mW q cI cD (nI 0) (nI n) rC hh fi fo fw fe fr ff fp fl fc) H := hP
  refine lv_aload_n hx hb dX1_imbalance_5 rfl (lv_at hl 0 rfl) ?_
  refine vp_callSi (W.runV (As := []) (rest := []) S (c_X1_difference hn hI hO) (cwV 0 hts gX1_imbalance_X1_difference rfl rfl rfl hdX1_difference ⟨Nat.le_of_ble_eq_true rfl, Nat.le_of_ble_eq_true rfl⟩) (preV hK hP rfl rfl) rfl rfl hl.1 rfl (lv_room (Nat.le_of_ble_eq_true rfl)) dX1_imbalance_6 ⟨Nat.zero_le _, Nat.zero_le _⟩) (fun r_1 er_1 => ?_)
  subst er_1
  subst hQ
  exact W.iret hx hb hr (fun t ht hWm => ⟨⟨_, (), rfl, rfl, (show va_P D cls2 _ t.heap from by rw [ht]; exact hP)⟩, hS.F ht⟩) hS.2.2 dX1_imbalance_9
abbrev rX1_excessOf : Room := { frames := 0, cells := 0, slots := 0, locals := 0 }
theorem hdX1_excessOf : yX1_excessOf.cls = RX1 ∧ yX1_excessOf.cls ≠ "java/lang/invoke/MethodHandle" ∧ yX1_excessOf.cls ≠ "java/lang/invoke/VarHandle" ∧ (parseMethodDescriptor yX1_excessOf.desc).map (fun d => d.parameters.length) = some 1 := by decide +kernel
set_option maxHeartbeats 4000000 in
set_option maxRecDepth 100000 in
theorem c_X1_excessOf {l : Launch} {D : va_G} {q : Nat → Nat} {cI cD : ClassId} {th rC : Int32} {hh : Int64} {fi fo fw : Nat → Int32} {fe : Nat → UInt64} {fr : Nat → Int32} {ff : Nat → UInt64} {fp fl fc : Nat → Int32} {n : Nat} (hn : 3 ≤ n ∧ n ≤ 6) {inf : Nat → Int32} (hI : ag1 n fi inf) {out : Nat → Int32} (hO : ag1 n fo out) {w : Nat → Nat → Int32} (hW : ag2 n fw w) {s : Nat} (hs : s < 64) : Met l yX1_excessOf wsX1_excessOf rX1_excessOf (va_Pc [.ref (q 0), .int (nI s)] (wPre D (tys2 cI cD) (mW q cI cD th (nI n) rC hh fi fo fw fe fr ff fp fl fc))) (vp_Si (fun r => r = exc n (opn w) inf out s n)) 0 0 (fun _ => False) := by
  refine met_intro (cc := cX1_excessOf) (maxL := 6) (ret := (some .int)) (own := RX1) (by decide) rfl rfl (Nat.le_of_ble_eq_true rfl) ?_
  intro pp ee ss mm args below meth cd Q ls hQ S hr hlocks hv hB hl
  obtain ⟨hx, hb, hml, hown, hts⟩ := id S
  obtain ⟨hP, hK⟩ := hB
  have in_w : ∀ w ∈ wsX10, w ∈ wsX1_excessOf := by decide +kernel
  have fl_7 : Cond.fieldLink RX1 7 RX1 (TX1 1).2.1 (TX1 1).2.2.1 ∈ wsX1_excessOf := by decide +kernel
  have fl_13 : Cond.fieldLink RX1 13 RX1 (TX1 2).2.1 (TX1 2).2.2.1 ∈ wsX1_excessOf := by decide +kernel
  have fl_17 : Cond.fieldLink RX1 17 RX1 (TX1 3).2.1 (TX1 3).2.2.1 ∈ wsX1_excessOf := by decide +kernel
  have fl_20 : Cond.fieldLink RX1 20 RX1 (TX1 4).2.1 (TX1 4).2.2.1 ∈ wsX1_excessOf := by decide +kernel
  have hl : lv_has ls 6 [(0, .ref (q 0)), (1, .int (nI s))] := hl
  refine lv_iconst (v := nI 0) hx hb dX1_excessOf_0 (by decide) ?_
  refine lv_istore_n (lv' := [(2, .int (nI 0)), (0, .ref (q 0)), (1, .int (nI s))]) hx hb dX1_excessOf_1 rfl hl (by decide) rfl (fun ls hl => ?_)
  refine lv_iconst (v := nI 0) hx hb dX1_excessOf_2 (by decide) ?_
  refine lv_istore_n (lv' := [(3, .int (nI 0)), (2, .int (nI 0)), (0, .ref (q 0)), (1, .int (nI s))]) hx hb dX1_excessOf_3 rfl hl (by decide) rfl (fun ls hl => ?_)
  have lp4 : ∀ (j a : Nat), a + j = n → ∀ ls : Array Slot, lv_has ls 6 [(0, .ref (q 0)), (1, .int (nI s)), (2, .int (exc n (opn w) inf out s a)), (3, .int (nI a))] → W pp l ee rX1_excessOf ss mm args below meth cd ss.heap [] 0 0 Q (F0 mm 4 ls []) := by
    intro j
    induction j with
    | zero =>
      intro a hk_a ls hl
      have hke_a : n = a := by omega
      subst hke_a
      refine lv_iload_n hx hb dX1_excessOf_4 rfl (lv_at hl 3 rfl) ?_
      refine lv_aload_n hx hb dX1_excessOf_5 rfl (lv_at hl 0 rfl) ?_
      refine w_getM (own := RX1) (v := .int (nI n)) S in_w hK hP rfl 1 (by decide) fl_7 rfl rfl dX1_excessOf_6 ?_
      refine lv_icmp_ge (tgt := 116) hx hb dX1_excessOf_9 (by decide) (fun h9_0 => ?_) (fun h9_0 => absurd (Int32.le_refl _) h9_0)
      refine lv_iload_n hx hb dX1_excessOf_116 rfl (lv_at hl 2 rfl) ?_
      subst hQ
      exact W.iret hx hb hr (fun t ht hWm => ⟨_, rfl, rfl, ht⟩) (fun q h => absurd h List.not_mem_nil) dX1_excessOf_117
    | succ j ih =>
      intro a hk_a ls hl
      have hlt_a : a < n := by omega
      refine lv_iload_n hx hb dX1_excessOf_4 rfl (lv_at hl 3 rfl) ?_
      refine lv_aload_n hx hb dX1_excessOf_5 rfl (lv_at hl 0 rfl) ?_
      refine w_getM (own := RX1) (v := .int (nI n)) S in_w hK hP rfl 1 (by decide) fl_7 rfl rfl dX1_excessOf_6 ?_
      refine lv_icmp_ge (tgt := 116) hx hb dX1_excessOf_9 (by decide) (fun h9_0 => absurd h9_0 (nI_ge hlt_a (by omega))) (fun h9_0 => ?_)
      refine lv_iconst (v := nI 0) hx hb dX1_excessOf_12 (by decide) ?_
      refine lv_istore (lv' := [(4, .int (nI 0)), (0, .ref (q 0)), (1, .int (nI s)), (2, .int (exc n (opn w) inf out s a)), (3, .int (nI a))]) hx hb dX1_excessOf_13 hl (by decide) rfl (fun ls hl => ?_)
      refine lv_iconst (v := nI 0) hx hb dX1_excessOf_15 (by decide) ?_
      refine lv_istore (lv' := [(5, .int (nI 0)), (4, .int (nI 0)), (0, .ref (q 0)), (1, .int (nI s)), (2, .int (exc n (opn w) inf out s a)), (3, .int (nI a))]) hx hb dX1_excessOf_16 hl (by decide) rfl (fun ls hl => ?_)
      have lp18 : ∀ (j b : Nat), b + j = n → ∀ ls : Array Slot, lv_has ls 6 [(0, .ref (q 0)), (1, .int (nI s)), (2, .int (exc n (opn w) inf out s a)), (3, .int (nI a)), (4, .int (bI (ldk (opn w) s a b))), (5, .int (nI b))] → W pp l ee rX1_excessOf ss mm args below meth cd ss.heap [] 0 0 Q (F0 mm 18 ls []) := by
        intro j
        induction j with
        | zero =>
          intro b hk_b ls hl
          have hke_b : n = b := by omega
          subst hke_b
          refine lv_iload hx hb dX1_excessOf_18 (lv_at hl 5 rfl) ?_
          refine lv_aload_n hx hb dX1_excessOf_20 rfl (lv_at hl 0 rfl) ?_
          refine w_getM (own := RX1) (v := .int (nI n)) S in_w hK hP rfl 1 (by decide) fl_7 rfl rfl dX1_excessOf_21 ?_
          refine lv_icmp_ge (tgt := 70) hx hb dX1_excessOf_24 (by decide) (fun h24_1 => ?_) (fun h24_1 => absurd (Int32.le_refl _) h24_1)
          refine lv_iload_n hx hb dX1_excessOf_70 rfl (lv_at hl 2 rfl) ?_
          refine lv_iload_n hx hb dX1_excessOf_71 rfl (lv_at hl 1 rfl) ?_
          refine lv_iload_n hx hb dX1_excessOf_72 rfl (lv_at hl 3 rfl) ?_
          refine lv_ishr hx hb dX1_excessOf_73 ?_
          refine lv_iconst (v := nI 1) hx hb dX1_excessOf_74 (by decide) ?_
          refine lv_iand hx hb dX1_excessOf_75 ?_
          rw [nI_shrbit (s := s) (a := a) (by omega) (by omega)]
          refine lv_iconst (v := nI 1) hx hb dX1_excessOf_76 (by decide) ?_
          refine w_icmpB (tgt := 89) hx hb dX1_excessOf_77 (by decide) (fun h77_2 => ?_) (fun h77_2 => ?_)
          · refine lv_iconst (v := nI 0) hx hb dX1_excessOf_89 (by decide) ?_
            refine lv_iadd hx hb dX1_excessOf_90 ?_
            refine lv_istore_n (lv' := [(2, .int ((exc n (opn w) inf out s a) + (nI 0))), (0, .ref (q 0)), (1, .int (nI s)), (3, .int (nI a)), (4, .int (bI (ldk (opn w) s a n))), (5, .int (nI n))]) hx hb dX1_excessOf_91 rfl hl (by decide) rfl (fun ls hl => ?_)
            refine lv_iload_n hx hb dX1_excessOf_92 rfl (lv_at hl 0 rfl) ?_
            refine lv_iload hx hb dX1_excessOf_93 (lv_at hl 4 rfl) ?_
            refine w_ifBeq (tgt := 107) hx hb dX1_excessOf_95 (by decide) (fun h95_3 => ?_) (fun h95_3 => ?_)
            · refine lv_iconst (v := nI 0) hx hb dX1_excessOf_107 (by decide) ?_
              refine lv_isub hx hb dX1_excessOf_108 ?_
              refine lv_istore_n (lv' := [(2, .int (((exc n (opn w) inf out s a) + (nI 0)) - (nI 0))), (0, .ref (q 0)), (1, .int (nI s)), (3, .int (nI a)), (4, .int (bI (ldk (opn w) s a n))), (5, .int (nI n))]) hx hb dX1_excessOf_109 rfl hl (by decide) rfl (fun ls hl => ?_)
              refine lv_iinc (v := nI (a + 1)) (lv' := [(3, .int (nI (a + 1))), (2, .int (((exc n (opn w) inf out s a) + (nI 0)) - (nI 0))), (0, .ref (q 0)), (1, .int (nI s)), (4, .int (bI (ldk (opn w) s a n))), (5, .int (nI n))]) hx hb dX1_excessOf_110 hl (k := 3) rfl (by rw [show Int32.ofInt 1 = nI 1 from by decide, nI_add]) (by decide) rfl (fun ls hl => ?_)
              refine lv_goto (tgt := 4) hx hb dX1_excessOf_113 (by decide) ?_
              have eq_1 : exc n (opn w) inf out s (a + 1) = ((exc n (opn w) inf out s a) + (nI 0)) - (nI 0) := by (unfold exc; rw [itN_succ]; simp only [h24_1, h77_2, h95_3, reduceIte, Bool.false_eq_true, add_nI0, sub_nI0])
              have hl : lv_has ls 6 [(3, .int (nI (a + 1))), (2, .int (exc n (opn w) inf out s (a + 1))), (0, .ref (q 0)), (1, .int (nI s)), (4, .int (bI (ldk (opn w) s a n))), (5, .int (nI n))] := by first | exact hl | (rw [eq_1]; exact hl)
              exact ih (a + 1) (by omega) ls (lv_sub hl [2, 3, 1, 0] rfl)
            · refine lv_aload_n hx hb dX1_excessOf_98 rfl (lv_at hl 1 rfl) ?_
              refine w_getM (own := RX1) (v := .ref (q 2)) S in_w hK hP rfl 3 (by decide) fl_17 rfl rfl dX1_excessOf_99 ?_
              refine lv_iload_n hx hb dX1_excessOf_102 rfl (lv_at hl 3 rfl) ?_
              refine w_iald hx hb hK hP 2 0 rfl rfl (j := a) (v := out a) (hO a (by omega)) (by omega) (by decide) dX1_excessOf_103 ?_
              refine lv_goto (tgt := 108) hx hb dX1_excessOf_104 (by decide) ?_
              refine lv_isub hx hb dX1_excessOf_108 ?_
              refine lv_istore_n (lv' := [(2, .int (((exc n (opn w) inf out s a) + (nI 0)) - (out a))), (0, .ref (q 0)), (1, .int (nI s)), (3, .int (nI a)), (4, .int (bI (ldk (opn w) s a n))), (5, .int (nI n))]) hx hb dX1_excessOf_109 rfl hl (by decide) rfl (fun ls hl => ?_)
              refine lv_iinc (v := nI (a + 1)) (lv' := [(3, .int (nI (a + 1))), (2, .int (((exc n (opn w) inf out s a) + (nI 0)) - (out a))), (0, .ref (q 0)), (1, .int (nI s)), (4, .int (bI (ldk (opn w) s a n))), (5, .int (nI n))]) hx hb dX1_excessOf_110 hl (k := 3) rfl (by rw [show Int32.ofInt 1 = nI 1 from by decide, nI_add]) (by decide) rfl (fun ls hl => ?_)
              refine lv_goto (tgt := 4) hx hb dX1_excessOf_113 (by decide) ?_
              have eq_2 : exc n (opn w) inf out s (a + 1) = ((exc n (opn w) inf out s a) + (nI 0)) - (out a) := by (unfold exc; rw [itN_succ]; simp only [h24_1, h77_2, h95_3, reduceIte, Bool.false_eq_true, add_nI0, sub_nI0])
              have hl : lv_has ls 6 [(3, .int (nI (a + 1))), (2, .int (exc n (opn w) inf out s (a + 1))), (0, .ref (q 0)), (1, .int (nI s)), (4, .int (bI (ldk (opn w) s a n))), (5, .int (nI n))] := by first | exact hl | (rw [eq_2]; exact hl)
              exact ih (a + 1) (by omega) ls (lv_sub hl [2, 3, 1, 0] rfl)
          · refine lv_aload_n hx hb dX1_excessOf_80 rfl (lv_at hl 0 rfl) ?_
            refine w_getM (own := RX1) (v := .ref (q 1)) S in_w hK hP rfl 2 (by decide) fl_13 rfl rfl dX1_excessOf_81 ?_
            refine lv_iload_n hx hb dX1_excessOf_84 rfl (lv_at hl 3 rfl) ?_
            refine w_iald hx hb hK hP 1 0 rfl rfl (j := a) (v := inf a) (hI a (by omega)) (by omega) (by decide) dX1_excessOf_85 ?_
            refine lv_goto (tgt := 90) hx hb dX1_excessOf_86 (by decide) ?_
            refine lv_iadd hx hb dX1_excessOf_90 ?_
            refine lv_istore_n (lv' := [(2, .int ((exc n (opn w) inf out s a) + (inf a))), (0, .ref (q 0)), (1, .int (nI s)), (3, .int (nI a)), (4, .int (bI (ldk (opn w) s a n))), (5, .int (nI n))]) hx hb dX1_excessOf_91 rfl hl (by decide) rfl (fun ls hl => ?_)
            refine lv_iload_n hx hb dX1_excessOf_92 rfl (lv_at hl 0 rfl) ?_
            refine lv_iload hx hb dX1_excessOf_93 (lv_at hl 4 rfl) ?_
            refine w_ifBeq (tgt := 107) hx hb dX1_excessOf_95 (by decide) (fun h95_3 => ?_) (fun h95_3 => ?_)
            · refine lv_iconst (v := nI 0) hx hb dX1_excessOf_107 (by decide) ?_
              refine lv_isub hx hb dX1_excessOf_108 ?_
              refine lv_istore_n (lv' := [(2, .int (((exc n (opn w) inf out s a) + (inf a)) - (nI 0))), (0, .ref (q 0)), (1, .int (nI s)), (3, .int (nI a)), (4, .int (bI (ldk (opn w) s a n))), (5, .int (nI n))]) hx hb dX1_excessOf_109 rfl hl (by decide) rfl (fun ls hl => ?_)
              refine lv_iinc (v := nI (a + 1)) (lv' := [(3, .int (nI (a + 1))), (2, .int (((exc n (opn w) inf out s a) + (inf a)) - (nI 0))), (0, .ref (q 0)), (1, .int (nI s)), (4, .int (bI (ldk (opn w) s a n))), (5, .int (nI n))]) hx hb dX1_excessOf_110 hl (k := 3) rfl (by rw [show Int32.ofInt 1 = nI 1 from by decide, nI_add]) (by decide) rfl (fun ls hl => ?_)
              refine lv_goto (tgt := 4) hx hb dX1_excessOf_113 (by decide) ?_
              have eq_3 : exc n (opn w) inf out s (a + 1) = ((exc n (opn w) inf out s a) + (inf a)) - (nI 0) := by (unfold exc; rw [itN_succ]; simp only [h24_1, h77_2, h95_3, reduceIte, Bool.false_eq_true, add_nI0, sub_nI0])
              have hl : lv_has ls 6 [(3, .int (nI (a + 1))), (2, .int (exc n (opn w) inf out s (a + 1))), (0, .ref (q 0)), (1, .int (nI s)), (4, .int (bI (ldk (opn w) s a n))), (5, .int (nI n))] := by first | exact hl | (rw [eq_3]; exact hl)
              exact ih (a + 1) (by omega) ls (lv_sub hl [2, 3, 1, 0] rfl)
            · refine lv_aload_n hx hb dX1_excessOf_98 rfl (lv_at hl 1 rfl) ?_
              refine w_getM (own := RX1) (v := .ref (q 2)) S in_w hK hP rfl 3 (by decide) fl_17 rfl rfl dX1_excessOf_99 ?_
              refine lv_iload_n hx hb dX1_excessOf_102 rfl (lv_at hl 3 rfl) ?_
              refine w_iald hx hb hK hP 2 0 rfl rfl (j := a) (v := out a) (hO a (by omega)) (by omega) (by decide) dX1_excessOf_103 ?_
              refine lv_goto (tgt := 108) hx hb dX1_excessOf_104 (by decide) ?_
              refine lv_isub hx hb dX1_excessOf_108 ?_
              refine lv_istore_n (lv' := [(2, .int (((exc n (opn w) inf out s a) + (inf a)) - (out a))), (0, .ref (q 0)), (1, .int (nI s)), (3, .int (nI a)), (4, .int (bI (ldk (opn w) s a n))), (5, .int (nI n))]) hx hb dX1_excessOf_109 rfl hl (by decide) rfl (fun ls hl => ?_)
              refine lv_iinc (v := nI (a + 1)) (lv' := [(3, .int (nI (a + 1))), (2, .int (((exc n (opn w) inf out s a) + (inf a)) - (out a))), (0, .ref (q 0)), (1, .int (nI s)), (4, .int (bI (ldk (opn w) s a n))), (5, .int (nI n))]) hx hb dX1_excessOf_110 hl (k := 3) rfl (by rw [show Int32.ofInt 1 = nI 1 from by decide, nI_add]) (by decide) rfl (fun ls hl => ?_)
              refine lv_goto (tgt := 4) hx hb dX1_excessOf_113 (by decide) ?_
              have eq_4 : exc n (opn w) inf out s (a + 1) = ((exc n (opn w) inf out s a) + (inf a)) - (out a) := by (unfold exc; rw [itN_succ]; simp only [h24_1, h77_2, h95_3, reduceIte, Bool.false_eq_true, add_nI0, sub_nI0])
              have hl : lv_has ls 6 [(3, .int (nI (a + 1))), (2, .int (exc n (opn w) inf out s (a + 1))), (0, .ref (q 0)), (1, .int (nI s)), (4, .int (bI (ldk (opn w) s a n))), (5, .int (nI n))] := by first | exact hl | (rw [eq_4]; exact hl)
              exact ih (a + 1) (by omega) ls (lv_sub hl [2, 3, 1, 0] rfl)
        | succ j ih =>
          intro b hk_b ls hl
          have hlt_b : b < n := by omega
          refine lv_iload hx hb dX1_excessOf_18 (lv_at hl 5 rfl) ?_
          refine lv_aload_n hx hb dX1_excessOf_20 rfl (lv_at hl 0 rfl) ?_
          refine w_getM (own := RX1) (v := .int (nI n)) S in_w hK hP rfl 1 (by decide) fl_7 rfl rfl dX1_excessOf_21 ?_
          refine lv_icmp_ge (tgt := 70) hx hb dX1_excessOf_24 (by decide) (fun h24_1 => absurd h24_1 (nI_ge hlt_b (by omega))) (fun h24_1 => ?_)
          refine lv_iload hx hb dX1_excessOf_27 (lv_at hl 4 rfl) ?_
          refine w_ifBne (tgt := 57) hx hb dX1_excessOf_29 (by decide) (fun h29_2 => ?_) (fun h29_2 => ?_)
          · refine lv_iconst (v := nI 1) hx hb dX1_excessOf_57 (by decide) ?_
            refine lv_goto (tgt := 62) hx hb dX1_excessOf_58 (by decide) ?_
            refine lv_istore (lv' := [(4, .int (nI 1)), (0, .ref (q 0)), (1, .int (nI s)), (2, .int (exc n (opn w) inf out s a)), (3, .int (nI a)), (5, .int (nI b))]) hx hb dX1_excessOf_62 hl (by decide) rfl (fun ls hl => ?_)
            refine lv_iinc (v := nI (b + 1)) (lv' := [(5, .int (nI (b + 1))), (4, .int (nI 1)), (0, .ref (q 0)), (1, .int (nI s)), (2, .int (exc n (opn w) inf out s a)), (3, .int (nI a))]) hx hb dX1_excessOf_64 hl (k := 5) rfl (by rw [show Int32.ofInt 1 = nI 1 from by decide, nI_add]) (by decide) rfl (fun ls hl => ?_)
            refine lv_goto (tgt := 18) hx hb dX1_excessOf_67 (by decide) ?_
            have eq_5 : bI (ldk (opn w) s a (b + 1)) = nI 1 := by (show bI (ldk (opn w) s a b || (Nat.testBit s b && opn w b a)) = _; simp only [h29_2, Bool.true_and, Bool.false_and, Bool.and_true, Bool.and_false, Bool.true_or, Bool.false_or, Bool.or_true, Bool.or_false, Bool.not_true, Bool.not_false, decide_true, decide_false]; rfl)
            have hl : lv_has ls 6 [(5, .int (nI (b + 1))), (4, .int (bI (ldk (opn w) s a (b + 1)))), (0, .ref (q 0)), (1, .int (nI s)), (2, .int (exc n (opn w) inf out s a)), (3, .int (nI a))] := by first | exact hl | (rw [eq_5]; exact hl)
            exact ih (b + 1) (by omega) ls (lv_sub hl [2, 3, 4, 5, 1, 0] rfl)
          · refine lv_iload_n hx hb dX1_excessOf_32 rfl (lv_at hl 1 rfl) ?_
            refine lv_iload hx hb dX1_excessOf_33 (lv_at hl 5 rfl) ?_
            refine lv_ishr hx hb dX1_excessOf_35 ?_
            refine lv_iconst (v := nI 1) hx hb dX1_excessOf_36 (by decide) ?_
            refine lv_iand hx hb dX1_excessOf_37 ?_
            rw [nI_shrbit (s := s) (a := b) (by omega) (by omega)]
            refine lv_iconst (v := nI 1) hx hb dX1_excessOf_38 (by decide) ?_
            refine w_icmpB (tgt := 61) hx hb dX1_excessOf_39 (by decide) (fun h39_3 => ?_) (fun h39_3 => ?_)
            · refine lv_iconst (v := nI 0) hx hb dX1_excessOf_61 (by decide) ?_
              refine lv_istore (lv' := [(4, .int (nI 0)), (0, .ref (q 0)), (1, .int (nI s)), (2, .int (exc n (opn w) inf out s a)), (3, .int (nI a)), (5, .int (nI b))]) hx hb dX1_excessOf_62 hl (by decide) rfl (fun ls hl => ?_)
              refine lv_iinc (v := nI (b + 1)) (lv' := [(5, .int (nI (b + 1))), (4, .int (nI 0)), (0, .ref (q 0)), (1, .int (nI s)), (2, .int (exc n (opn w) inf out s a)), (3, .int (nI a))]) hx hb dX1_excessOf_64 hl (k := 5) rfl (by rw [show Int32.ofInt 1 = nI 1 from by decide, nI_add]) (by decide) rfl (fun ls hl => ?_)
              refine lv_goto (tgt := 18) hx hb dX1_excessOf_67 (by decide) ?_
              have eq_6 : bI (ldk (opn w) s a (b + 1)) = nI 0 := by (show bI (ldk (opn w) s a b || (Nat.testBit s b && opn w b a)) = _; simp only [h29_2, h39_3, Bool.true_and, Bool.false_and, Bool.and_true, Bool.and_false, Bool.true_or, Bool.false_or, Bool.or_true, Bool.or_false, Bool.not_true, Bool.not_false, decide_true, decide_false]; rfl)
              have hl : lv_has ls 6 [(5, .int (nI (b + 1))), (4, .int (bI (ldk (opn w) s a (b + 1)))), (0, .ref (q 0)), (1, .int (nI s)), (2, .int (exc n (opn w) inf out s a)), (3, .int (nI a))] := by first | exact hl | (rw [eq_6]; exact hl)
              exact ih (b + 1) (by omega) ls (lv_sub hl [2, 3, 4, 5, 1, 0] rfl)
            · refine lv_aload_n hx hb dX1_excessOf_42 rfl (lv_at hl 0 rfl) ?_
              refine w_getM (own := RX1) (v := .ref (q 3)) S in_w hK hP rfl 4 (by decide) fl_20 rfl rfl dX1_excessOf_43 ?_
              refine lv_bipush (v := nI 6) hx hb dX1_excessOf_46 (by decide) ?_
              refine lv_iload hx hb dX1_excessOf_48 (lv_at hl 5 rfl) ?_
              refine w_imulL (N := 6) (y := 0) hx hb rfl dX1_excessOf_50 ?_
              refine lv_iload_n hx hb dX1_excessOf_51 rfl (lv_at hl 3 rfl) ?_
              refine w_iadd hx hb dX1_excessOf_52 ?_
              refine w_iald hx hb hK hP 3 0 rfl rfl (j := 6 * b + a) (v := w b a) (hW b a (by omega) (by omega)) (by omega) (by decide) dX1_excessOf_53 ?_
              refine w_ifW (w := w) b a (tgt := 61) hx hb dX1_excessOf_54 (by decide) (fun h54_4 => ?_) (fun h54_4 => ?_)
              · refine lv_iconst (v := nI 0) hx hb dX1_excessOf_61 (by decide) ?_
                refine lv_istore (lv' := [(4, .int (nI 0)), (0, .ref (q 0)), (1, .int (nI s)), (2, .int (exc n (opn w) inf out s a)), (3, .int (nI a)), (5, .int (nI b))]) hx hb dX1_excessOf_62 hl (by decide) rfl (fun ls hl => ?_)
                refine lv_iinc (v := nI (b + 1)) (lv' := [(5, .int (nI (b + 1))), (4, .int (nI 0)), (0, .ref (q 0)), (1, .int (nI s)), (2, .int (exc n (opn w) inf out s a)), (3, .int (nI a))]) hx hb dX1_excessOf_64 hl (k := 5) rfl (by rw [show Int32.ofInt 1 = nI 1 from by decide, nI_add]) (by decide) rfl (fun ls hl => ?_)
                refine lv_goto (tgt := 18) hx hb dX1_excessOf_67 (by decide) ?_
                have eq_7 : bI (ldk (opn w) s a (b + 1)) = nI 0 := by (show bI (ldk (opn w) s a b || (Nat.testBit s b && opn w b a)) = _; simp only [h29_2, h39_3, h54_4, Bool.true_and, Bool.false_and, Bool.and_true, Bool.and_false, Bool.true_or, Bool.false_or, Bool.or_true, Bool.or_false, Bool.not_true, Bool.not_false, decide_true, decide_false]; rfl)
                have hl : lv_has ls 6 [(5, .int (nI (b + 1))), (4, .int (bI (ldk (opn w) s a (b + 1)))), (0, .ref (q 0)), (1, .int (nI s)), (2, .int (exc n (opn w) inf out s a)), (3, .int (nI a))] := by first | exact hl | (rw [eq_7]; exact hl)
                exact ih (b + 1) (by omega) ls (lv_sub hl [2, 3, 4, 5, 1, 0] rfl)
              · refine lv_iconst (v := nI 1) hx hb dX1_excessOf_57 (by decide) ?_
                refine lv_goto (tgt := 62) hx hb dX1_excessOf_58 (by decide) ?_
                refine lv_istore (lv' := [(4, .int (nI 1)), (0, .ref (q 0)), (1, .int (nI s)), (2, .int (exc n (opn w) inf out s a)), (3, .int (nI a)), (5, .int (nI b))]) hx hb dX1_excessOf_62 hl (by decide) rfl (fun ls hl => ?_)
                refine lv_iinc (v := nI (b + 1)) (lv' := [(5, .int (nI (b + 1))), (4, .int (nI 1)), (0, .ref (q 0)), (1, .int (nI s)), (2, .int (exc n (opn w) inf out s a)), (3, .int (nI a))]) hx hb dX1_excessOf_64 hl (k := 5) rfl (by rw [show Int32.ofInt 1 = nI 1 from by decide, nI_add]) (by decide) rfl (fun ls hl => ?_)
                refine lv_goto (tgt := 18) hx hb dX1_excessOf_67 (by decide) ?_
                have eq_8 : bI (ldk (opn w) s a (b + 1)) = nI 1 := by (show bI (ldk (opn w) s a b || (Nat.testBit s b && opn w b a)) = _; simp only [h29_2, h39_3, h54_4, Bool.true_and, Bool.false_and, Bool.and_true, Bool.and_false, Bool.true_or, Bool.false_or, Bool.or_true, Bool.or_false, Bool.not_true, Bool.not_false, decide_true, decide_false]; rfl)
                have hl : lv_has ls 6 [(5, .int (nI (b + 1))), (4, .int (bI (ldk (opn w) s a (b + 1)))), (0, .ref (q 0)), (1, .int (nI s)), (2, .int (exc n (opn w) inf out s a)), (3, .int (nI a))] := by first | exact hl | (rw [eq_8]; exact hl)
                exact ih (b + 1) (by omega) ls (lv_sub hl [2, 3, 4, 5, 1, 0] rfl)
      exact lp18 (n - 0) 0 (by omega) ls (lv_sub hl [2, 3, 4, 5, 1, 0] rfl)
  exact lp4 (n - 0) 0 (by omega) ls (lv_sub hl [2, 3, 1, 0] rfl)
abbrev rX1_crowded : Room := { frames := 1, cells := 0, slots := 0, locals := 25 }
theorem hdX1_crowded : yX1_crowded.cls = RX1 ∧ yX1_crowded.cls ≠ "java/lang/invoke/MethodHandle" ∧ yX1_crowded.cls ≠ "java/lang/invoke/VarHandle" ∧ (parseMethodDescriptor yX1_crowded.desc).map (fun d => d.parameters.length) = some 0 := by decide +kernel
set_option maxHeartbeats 4000000 in
set_option maxRecDepth 100000 in
theorem c_X1_crowded {l : Launch} {D : va_G} {q : Nat → Nat} {cI cD : ClassId} {th rC : Int32} {hh : Int64} {fi fo fw : Nat → Int32} {fe : Nat → UInt64} {fr : Nat → Int32} {ff : Nat → UInt64} {fp fl fc : Nat → Int32} {n : Nat} (hn : 3 ≤ n ∧ n ≤ 6) {inf : Nat → Int32} (hI : ag1 n fi inf) {out : Nat → Int32} (hO : ag1 n fo out) {w : Nat → Nat → Int32} (hW : ag2 n fw w)  : Met l yX1_crowded wsX1_crowded rX1_crowded (va_Pc [.ref (q 0)] (wPre D (tys2 cI cD) (mW q cI cD th (nI n) rC hh fi fo fw fe fr ff fp fl fc))) (vp_Si (fun r => r = crd n (opn w) inf out)) 0 0 (fun _ => False) := by
  refine met_intro (cc := cX1_crowded) (maxL := 2) (ret := (some .int)) (own := RX1) (by decide) rfl rfl (Nat.le_of_ble_eq_true rfl) ?_
  intro pp ee ss mm args below meth cd Q ls hQ S hr hlocks hv hB hl
  obtain ⟨hx, hb, hml, hown, hts⟩ := id S
  obtain ⟨hP, hK⟩ := hB
  have in_w : ∀ w ∈ wsX10, w ∈ wsX1_crowded := by decide +kernel
  have fl_7 : Cond.fieldLink RX1 7 RX1 (TX1 1).2.1 (TX1 1).2.2.1 ∈ wsX1_crowded := by decide +kernel
  have hl : lv_has ls 2 [(0, .ref (q 0))] := hl
  have hp6 := pow6 hn
  refine lv_iconst (v := nI 1) hx hb dX1_crowded_0 (by decide) ?_
  refine lv_istore_n (lv' := [(1, .int (nI 1)), (0, .ref (q 0))]) hx hb dX1_crowded_1 rfl hl (by decide) rfl (fun ls hl => ?_)
  have lp2 : ∀ (j k : Nat), k + j = 2 ^ n → (crdF (excP n (opn w) inf out) j k = crd n (opn w) inf out) → ∀ ls : Array Slot, lv_has ls 2 [(0, .ref (q 0)), (1, .int (nI k))] → W pp l ee rX1_crowded ss mm args below meth cd ss.heap [] 0 0 Q (F0 mm 2 ls []) := by
    intro j
    induction j with
    | zero =>
      intro k hk_k hcr ls hl
      have hke_k : 2 ^ n = k := by omega
      subst hke_k
      refine lv_iload_n hx hb dX1_crowded_2 rfl (lv_at hl 1 rfl) ?_
      refine lv_iconst (v := nI 1) hx hb dX1_crowded_3 (by decide) ?_
      refine lv_aload_n hx hb dX1_crowded_4 rfl (lv_at hl 0 rfl) ?_
      refine w_getM (own := RX1) (v := .int (nI n)) S in_w hK hP rfl 1 (by decide) fl_7 rfl rfl dX1_crowded_5 ?_
      refine lv_ishl hx hb dX1_crowded_8 ?_
      rw [nI_shl (by omega)]
      refine lv_icmp_ge (tgt := 28) hx hb dX1_crowded_9 (by decide) (fun h9_0 => ?_) (fun h9_0 => absurd (Int32.le_refl _) h9_0)
      refine lv_iconst (v := -1) hx hb dX1_crowded_28 (by decide) ?_
      subst hQ
      exact W.iret hx hb hr (fun t ht hWm => ⟨_, rfl, (by rw [← hcr]; rfl), ht⟩) (fun q h => absurd h List.not_mem_nil) dX1_crowded_29
    | succ j ih =>
      intro k hk_k hcr ls hl
      have hlt_k : k < 2 ^ n := by omega
      refine lv_iload_n hx hb dX1_crowded_2 rfl (lv_at hl 1 rfl) ?_
      refine lv_iconst (v := nI 1) hx hb dX1_crowded_3 (by decide) ?_
      refine lv_aload_n hx hb dX1_crowded_4 rfl (lv_at hl 0 rfl) ?_
      refine w_getM (own := RX1) (v := .int (nI n)) S in_w hK hP rfl 1 (by decide) fl_7 rfl rfl dX1_crowded_5 ?_
      refine lv_ishl hx hb dX1_crowded_8 ?_
      rw [nI_shl (by omega)]
      refine lv_icmp_ge (tgt := 28) hx hb dX1_crowded_9 (by decide) (fun h9_0 => absurd h9_0 (nI_ge hlt_k (by omega))) (fun h9_0 => ?_)
      refine lv_aload_n hx hb dX1_crowded_12 rfl (lv_at hl 0 rfl) ?_
      refine lv_iload_n hx hb dX1_crowded_13 rfl (lv_at hl 1 rfl) ?_
      refine vp_callSi (W.runV (As := [.int (nI k)]) (rest := []) S (c_X1_excessOf hn hI hO hW (s := k) (by omega)) (cwV 1 hts gX1_crowded_X1_excessOf rfl rfl rfl hdX1_excessOf ⟨Nat.le_of_ble_eq_true rfl, Nat.le_of_ble_eq_true rfl⟩) (preV hK hP rfl rfl) rfl rfl hl.1 rfl (lv_room (Nat.le_of_ble_eq_true rfl)) dX1_crowded_14 ⟨Nat.zero_le _, Nat.zero_le _⟩) (fun r_1 er_1 => ?_)
      subst er_1
      refine lv_if_le (tgt := 22) hx hb dX1_crowded_17 (by decide) (fun h17_1 => ?_) (fun h17_1 => ?_)
      · refine lv_iinc (v := nI (k + 1)) (lv' := [(1, .int (nI (k + 1))), (0, .ref (q 0))]) hx hb dX1_crowded_22 hl (k := 1) rfl (by rw [show Int32.ofInt 1 = nI 1 from by decide, nI_add]) (by decide) rfl (fun ls hl => ?_)
        refine lv_goto (tgt := 2) hx hb dX1_crowded_25 (by decide) ?_
        exact ih (k + 1) (by omega) (by rw [← hcr]; show crdF (excP n (opn w) inf out) j (k + 1) = if excP n (opn w) inf out k = true then nI k else crdF (excP n (opn w) inf out) j (k + 1); rw [if_neg]; unfold excP; rw [decide_eq_true_iff]; exact Int32.not_lt.mpr h17_1) ls (lv_sub hl [1, 0] rfl)
      · refine lv_iload_n hx hb dX1_crowded_20 rfl (lv_at hl 1 rfl) ?_
        subst hQ
        exact W.iret hx hb hr (fun t ht hWm => ⟨_, rfl, (by rw [← hcr]; unfold crdF; rw [if_pos (show excP n (opn w) inf out k = true from decide_eq_true (Int32.not_le.mp h17_1))]), ht⟩) (fun q h => absurd h List.not_mem_nil) dX1_crowded_21
  exact lp2 (2 ^ n - 1) 1 (by omega) rfl ls (lv_sub hl [1, 0] rfl)
abbrev rX1_arePossible : Room := { frames := 2, cells := 0, slots := 0, locals := 46 }
theorem hdX1_arePossible : yX1_arePossible.cls = RX1 ∧ yX1_arePossible.cls ≠ "java/lang/invoke/MethodHandle" ∧ yX1_arePossible.cls ≠ "java/lang/invoke/VarHandle" ∧ (parseMethodDescriptor yX1_arePossible.desc).map (fun d => d.parameters.length) = some 0 := by decide +kernel
set_option maxHeartbeats 4000000 in
set_option maxRecDepth 100000 in
theorem c_X1_arePossible {l : Launch} {D : va_G} {q : Nat → Nat} {cI cD : ClassId} {th rC : Int32} {hh : Int64} {fi fo fw : Nat → Int32} {fe : Nat → UInt64} {fr : Nat → Int32} {ff : Nat → UInt64} {fp fl fc : Nat → Int32} {n : Nat} (hn : 3 ≤ n ∧ n ≤ 6) {inf : Nat → Int32} (hI : ag1 n fi inf) {out : Nat → Int32} (hO : ag1 n fo out) {w : Nat → Nat → Int32} (hW : ag2 n fw w)  : Met l yX1_arePossible wsX1_arePossible rX1_arePossible (va_Pc [.ref (q 0)] (wPre D (tys2 cI cD) (mW q cI cD th (nI n) rC hh fi fo fw fe fr ff fp fl fc))) (vp_Si (fun r => r = bI (psb n (opn w) inf out))) 0 0 (fun _ => False) := by
  refine met_intro (cc := cX1_arePossible) (maxL := 1) (ret := (some .boolean)) (own := RX1) (by decide) rfl rfl (Nat.le_of_ble_eq_true rfl) ?_
  intro pp ee ss mm args below meth cd Q ls hQ S hr hlocks hv hB hl
  obtain ⟨hx, hb, hml, hown, hts⟩ := id S
  obtain ⟨hP, hK⟩ := hB
  have hl : lv_has ls 1 [(0, .ref (q 0))] := hl
  refine lv_aload_n hx hb dX1_arePossible_0 rfl (lv_at hl 0 rfl) ?_
  refine vp_callSi (W.runV (As := []) (rest := []) S (c_X1_difference hn hI hO) (cwV 0 hts gX1_arePossible_X1_difference rfl rfl rfl hdX1_difference ⟨Nat.le_of_ble_eq_true rfl, Nat.le_of_ble_eq_true rfl⟩) (preV hK hP rfl rfl) rfl rfl hl.1 rfl (lv_room (Nat.le_of_ble_eq_true rfl)) dX1_arePossible_1 ⟨Nat.zero_le _, Nat.zero_le _⟩) (fun r_1 er_1 => ?_)
  subst er_1
  refine lv_if_ne (tgt := 19) hx hb dX1_arePossible_4 (by decide) (fun h4_0 => ?_) (fun h4_0 => ?_)
  · refine lv_iconst (v := nI 0) hx hb dX1_arePossible_19 (by decide) ?_
    subst hQ
    exact W.zret hx hb hr (by decide) (fun t ht hWm => ⟨_, rfl, (by unfold psb; simp [h4_0]; decide), ht⟩) (fun q h => absurd h List.not_mem_nil) dX1_arePossible_20
  · refine lv_aload_n hx hb dX1_arePossible_7 rfl (lv_at hl 0 rfl) ?_
    refine vp_callSi (W.runV (As := []) (rest := []) S (c_X1_crowded hn hI hO hW) (cwV 0 hts gX1_arePossible_X1_crowded rfl rfl rfl hdX1_crowded ⟨Nat.le_of_ble_eq_true rfl, Nat.le_of_ble_eq_true rfl⟩) (preV hK hP rfl rfl) rfl rfl hl.1 rfl (lv_room (Nat.le_of_ble_eq_true rfl)) dX1_arePossible_8 ⟨Nat.zero_le _, Nat.zero_le _⟩) (fun r_2 er_2 => ?_)
    subst er_2
    refine lv_iconst (v := -1) hx hb dX1_arePossible_11 (by decide) ?_
    refine lv_icmp_ne (tgt := 19) hx hb dX1_arePossible_12 (by decide) (fun h12_1 => ?_) (fun h12_1 => ?_)
    · refine lv_iconst (v := nI 0) hx hb dX1_arePossible_19 (by decide) ?_
      subst hQ
      exact W.zret hx hb hr (by decide) (fun t ht hWm => ⟨_, rfl, (by unfold psb; simp [h4_0, h12_1]; decide), ht⟩) (fun q h => absurd h List.not_mem_nil) dX1_arePossible_20
    · refine lv_iconst (v := nI 1) hx hb dX1_arePossible_15 (by decide) ?_
      refine lv_goto (tgt := 20) hx hb dX1_arePossible_16 (by decide) ?_
      subst hQ
      exact W.zret hx hb hr (by decide) (fun t ht hWm => ⟨_, rfl, (by unfold psb; simp [h4_0, h12_1]; decide), ht⟩) (fun q h => absurd h List.not_mem_nil) dX1_arePossible_20
abbrev rX1_isPossible : Room := { frames := 3, cells := 0, slots := 0, locals := 66 }
theorem hdX1_isPossible : yX1_isPossible.cls = RX1 ∧ yX1_isPossible.cls ≠ "java/lang/invoke/MethodHandle" ∧ yX1_isPossible.cls ≠ "java/lang/invoke/VarHandle" ∧ (parseMethodDescriptor yX1_isPossible.desc).map (fun d => d.parameters.length) = some 0 := by decide +kernel
set_option maxHeartbeats 4000000 in
set_option maxRecDepth 100000 in
theorem c_X1_isPossible {l : Launch} {D : va_G} {q : Nat → Nat} {cI cD : ClassId} {th rC : Int32} {hh : Int64} {fi fo fw : Nat → Int32} {fe : Nat → UInt64} {fr : Nat → Int32} {ff : Nat → UInt64} {fp fl fc : Nat → Int32} {n : Nat} (hn : 3 ≤ n ∧ n ≤ 6) {inf : Nat → Int32} (hI : ag1 n fi inf) {out : Nat → Int32} (hO : ag1 n fo out) {w : Nat → Nat → Int32} (hW : ag2 n fw w)  (hq : qD q) : Met l yX1_isPossible wsX1_isPossible rX1_isPossible (va_Pc [.ref (q 0)] (wPre D (tys2 cI cD) (mW q cI cD th (nI n) rC hh fi fo fw fe fr ff fp fl fc))) (va_Qi (fun r (u : Unit) => r = bI (psb n (opn w) inf out)) (fun u t => va_P D cls2 (mW q cI cD (nI 0) (nI n) rC hh fi fo fw fe fr ff fp fl fc) t.heap) (qA q)) 0 0 (qA q) := by
  refine met_intro (cc := cX1_isPossible) (maxL := 1) (ret := (some .boolean)) (own := RX1) (by decide) rfl rfl (Nat.le_of_ble_eq_true rfl) ?_
  intro pp ee ss mm args below meth cd Q ls hQ S hr hlocks hv hB hl
  obtain ⟨hx, hb, hml, hown, hts⟩ := id S
  obtain ⟨hP, hK⟩ := hB
  have in_w : ∀ w ∈ wsX10, w ∈ wsX1_isPossible := by decide +kernel
  have fl_45 : Cond.fieldLink RX1 45 RX1 (TX1 0).2.1 (TX1 0).2.2.1 ∈ wsX1_isPossible := by decide +kernel
  have hS : va_S (qA q) ss.heap ss.heap [] := va_S.rf
  generalize hHg : ss.heap = H at hP
  have hS : va_S (qA q) ss.heap H [] := by rw [← hHg]; exact hS
  suffices hgo : ∀ locs : List Loc, va_S (qA q) ss.heap H locs → W pp l ee rX1_isPossible ss mm args below meth cd H locs 0 0 Q (F0 mm 0 ls []) by
    first | exact hgo [] hS | (rw [hHg]; exact hgo [] hS)
  clear hS
  intro locs hS
  have hl : lv_has ls 1 [(0, .ref (q 0))] := hl
  refine lv_aload_n hx hb dX1_isPossible_0 rfl (lv_at hl 0 rfl) ?_
  refine lv_iconst (v := nI 0) hx hb dX1_isPossible_1 (by decide) ?_
  refine w_putM (v := .int (nI 0)) (ty := .int) S in_w hK hP (wD_of hq rfl) hS rfl 0 (by decide) fl_45 rfl (by decide +kernel) rfl rfl (Nat.le_of_ble_eq_true rfl) rfl dX1_isPossible_2 (fun H locs hP hS => ?_)
  have hP : va_P D cls2 (mW q cI cD (nI 0) (nI n) rC hh fi fo fw fe fr ff fp fl fc) H := hP
  refine lv_aload_n hx hb dX1_isPossible_5 rfl (lv_at hl 0 rfl) ?_
  refine vp_callSi (W.runV (As := []) (rest := []) S (c_X1_arePossible hn hI hO hW) (cwV 0 hts gX1_isPossible_X1_arePossible rfl rfl rfl hdX1_arePossible ⟨Nat.le_of_ble_eq_true rfl, Nat.le_of_ble_eq_true rfl⟩) (preV hK hP rfl rfl) rfl rfl hl.1 rfl (lv_room (Nat.le_of_ble_eq_true rfl)) dX1_isPossible_6 ⟨Nat.zero_le _, Nat.zero_le _⟩) (fun r_1 er_1 => ?_)
  subst er_1
  subst hQ
  exact W.zret hx hb hr (nar_b _) (fun t ht hWm => ⟨⟨_, (), rfl, rfl, (show va_P D cls2 _ t.heap from by rw [ht]; exact hP)⟩, hS.F ht⟩) hS.2.2 dX1_isPossible_9
abbrev rX1_crowdedSet : Room := { frames := 2, cells := 0, slots := 0, locals := 46 }
theorem hdX1_crowdedSet : yX1_crowdedSet.cls = RX1 ∧ yX1_crowdedSet.cls ≠ "java/lang/invoke/MethodHandle" ∧ yX1_crowdedSet.cls ≠ "java/lang/invoke/VarHandle" ∧ (parseMethodDescriptor yX1_crowdedSet.desc).map (fun d => d.parameters.length) = some 0 := by decide +kernel
set_option maxHeartbeats 4000000 in
set_option maxRecDepth 100000 in
theorem c_X1_crowdedSet {l : Launch} {D : va_G} {q : Nat → Nat} {cI cD : ClassId} {th rC : Int32} {hh : Int64} {fi fo fw : Nat → Int32} {fe : Nat → UInt64} {fr : Nat → Int32} {ff : Nat → UInt64} {fp fl fc : Nat → Int32} {n : Nat} (hn : 3 ≤ n ∧ n ≤ 6) {inf : Nat → Int32} (hI : ag1 n fi inf) {out : Nat → Int32} (hO : ag1 n fo out) {w : Nat → Nat → Int32} (hW : ag2 n fw w)  (hq : qD q) : Met l yX1_crowdedSet wsX1_crowdedSet rX1_crowdedSet (va_Pc [.ref (q 0)] (wPre D (tys2 cI cD) (mW q cI cD th (nI n) rC hh fi fo fw fe fr ff fp fl fc))) (va_Qi (fun r (u : Unit) => r = crd n (opn w) inf out) (fun u t => va_P D cls2 (mW q cI cD (nI 0) (nI n) rC hh fi fo fw fe fr ff fp fl fc) t.heap) (qA q)) 0 0 (qA q) := by
  refine met_intro (cc := cX1_crowdedSet) (maxL := 1) (ret := (some .int)) (own := RX1) (by decide) rfl rfl (Nat.le_of_ble_eq_true rfl) ?_
  intro pp ee ss mm args below meth cd Q ls hQ S hr hlocks hv hB hl
  obtain ⟨hx, hb, hml, hown, hts⟩ := id S
  obtain ⟨hP, hK⟩ := hB
  have in_w : ∀ w ∈ wsX10, w ∈ wsX1_crowdedSet := by decide +kernel
  have fl_45 : Cond.fieldLink RX1 45 RX1 (TX1 0).2.1 (TX1 0).2.2.1 ∈ wsX1_crowdedSet := by decide +kernel
  have hS : va_S (qA q) ss.heap ss.heap [] := va_S.rf
  generalize hHg : ss.heap = H at hP
  have hS : va_S (qA q) ss.heap H [] := by rw [← hHg]; exact hS
  suffices hgo : ∀ locs : List Loc, va_S (qA q) ss.heap H locs → W pp l ee rX1_crowdedSet ss mm args below meth cd H locs 0 0 Q (F0 mm 0 ls []) by
    first | exact hgo [] hS | (rw [hHg]; exact hgo [] hS)
  clear hS
  intro locs hS
  have hl : lv_has ls 1 [(0, .ref (q 0))] := hl
  refine lv_aload_n hx hb dX1_crowdedSet_0 rfl (lv_at hl 0 rfl) ?_
  refine lv_iconst (v := nI 0) hx hb dX1_crowdedSet_1 (by decide) ?_
  refine w_putM (v := .int (nI 0)) (ty := .int) S in_w hK hP (wD_of hq rfl) hS rfl 0 (by decide) fl_45 rfl (by decide +kernel) rfl rfl (Nat.le_of_ble_eq_true rfl) rfl dX1_crowdedSet_2 (fun H locs hP hS => ?_)
  have hP : va_P D cls2 (mW q cI cD (nI 0) (nI n) rC hh fi fo fw fe fr ff fp fl fc) H := hP
  refine lv_aload_n hx hb dX1_crowdedSet_5 rfl (lv_at hl 0 rfl) ?_
  refine vp_callSi (W.runV (As := []) (rest := []) S (c_X1_crowded hn hI hO hW) (cwV 0 hts gX1_crowdedSet_X1_crowded rfl rfl rfl hdX1_crowded ⟨Nat.le_of_ble_eq_true rfl, Nat.le_of_ble_eq_true rfl⟩) (preV hK hP rfl rfl) rfl rfl hl.1 rfl (lv_room (Nat.le_of_ble_eq_true rfl)) dX1_crowdedSet_6 ⟨Nat.zero_le _, Nat.zero_le _⟩) (fun r_1 er_1 => ?_)
  subst er_1
  subst hQ
  exact W.iret hx hb hr (fun t ht hWm => ⟨⟨_, (), rfl, rfl, (show va_P D cls2 _ t.heap from by rw [ht]; exact hP)⟩, hS.F ht⟩) hS.2.2 dX1_crowdedSet_9
abbrev rX1_excess : Room := { frames := 1, cells := 0, slots := 0, locals := 25 }
theorem hdX1_excess : yX1_excess.cls = RX1 ∧ yX1_excess.cls ≠ "java/lang/invoke/MethodHandle" ∧ yX1_excess.cls ≠ "java/lang/invoke/VarHandle" ∧ (parseMethodDescriptor yX1_excess.desc).map (fun d => d.parameters.length) = some 1 := by decide +kernel
set_option maxHeartbeats 4000000 in
set_option maxRecDepth 100000 in
theorem c_X1_excess {l : Launch} {D : va_G} {q : Nat → Nat} {cI cD : ClassId} {th rC : Int32} {hh : Int64} {fi fo fw : Nat → Int32} {fe : Nat → UInt64} {fr : Nat → Int32} {ff : Nat → UInt64} {fp fl fc : Nat → Int32} {n : Nat} (hn : 3 ≤ n ∧ n ≤ 6) {inf : Nat → Int32} (hI : ag1 n fi inf) {out : Nat → Int32} (hO : ag1 n fo out) {w : Nat → Nat → Int32} (hW : ag2 n fw w) {s : Nat} (hs : s < 2 ^ n) (hq : qD q) : Met l yX1_excess wsX1_excess rX1_excess (va_Pc [.ref (q 0), .int (nI s)] (wPre D (tys2 cI cD) (mW q cI cD th (nI n) rC hh fi fo fw fe fr ff fp fl fc))) (va_Qi (fun r (u : Unit) => r = exc n (opn w) inf out s n) (fun u t => va_P D cls2 (mW q cI cD (nI 0) (nI n) rC hh fi fo fw fe fr ff fp fl fc) t.heap) (qA q)) 0 0 (qA q) := by
  refine met_intro (cc := cX1_excess) (maxL := 2) (ret := (some .int)) (own := RX1) (by decide) rfl rfl (Nat.le_of_ble_eq_true rfl) ?_
  intro pp ee ss mm args below meth cd Q ls hQ S hr hlocks hv hB hl
  obtain ⟨hx, hb, hml, hown, hts⟩ := id S
  obtain ⟨hP, hK⟩ := hB
  have in_w : ∀ w ∈ wsX10, w ∈ wsX1_excess := by decide +kernel
  have fl_7 : Cond.fieldLink RX1 7 RX1 (TX1 1).2.1 (TX1 1).2.2.1 ∈ wsX1_excess := by decide +kernel
  have fl_45 : Cond.fieldLink RX1 45 RX1 (TX1 0).2.1 (TX1 0).2.2.1 ∈ wsX1_excess := by decide +kernel
  have hS : va_S (qA q) ss.heap ss.heap [] := va_S.rf
  generalize hHg : ss.heap = H at hP
  have hS : va_S (qA q) ss.heap H [] := by rw [← hHg]; exact hS
  suffices hgo : ∀ locs : List Loc, va_S (qA q) ss.heap H locs → W pp l ee rX1_excess ss mm args below meth cd H locs 0 0 Q (F0 mm 0 ls []) by
    first | exact hgo [] hS | (rw [hHg]; exact hgo [] hS)
  clear hS
  intro locs hS
  have hl : lv_has ls 2 [(0, .ref (q 0)), (1, .int (nI s))] := hl
  have hp6 := pow6 hn
  refine lv_aload_n hx hb dX1_excess_0 rfl (lv_at hl 0 rfl) ?_
  refine lv_iload_n hx hb dX1_excess_1 rfl (lv_at hl 1 rfl) ?_
  refine lv_iconst (v := nI 0) hx hb dX1_excess_2 (by decide) ?_
  refine lv_iconst (v := nI 1) hx hb dX1_excess_3 (by decide) ?_
  refine lv_aload_n hx hb dX1_excess_4 rfl (lv_at hl 0 rfl) ?_
  refine w_getM (own := RX1) (v := .int (nI n)) S in_w hK hP rfl 1 (by decide) fl_7 rfl rfl dX1_excess_5 ?_
  refine lv_ishl hx hb dX1_excess_8 ?_
  refine lv_iconst (v := nI 1) hx hb dX1_excess_9 (by decide) ?_
  refine lv_isub hx hb dX1_excess_10 ?_
  rw [allA hn]
  refine vp_callSi (W.runS (As := [.int (nI s), .int (nI 0), .int (nI (2 ^ n - 1))]) (rest := [.ref (q 0)]) S (c_X1_within (v := nI s) (a := nI 0) (b := nI (2 ^ n - 1))) (va_cwS 3 hts gX1_excess_X1_within rfl rfl rfl hdX1_within ⟨Nat.le_of_ble_eq_true rfl, Nat.le_of_ble_eq_true rfl⟩) preS rfl rfl hl.1 rfl (lv_room (Nat.le_of_ble_eq_true rfl)) dX1_excess_11 ⟨Nat.zero_le _, Nat.zero_le _⟩) (fun r_1 er_1 => ?_)
  subst er_1
  refine w_ifBeq (tgt := 21) hx hb dX1_excess_14 (by decide) (fun h14_0 => absurd ((wth_nat (v := s) (a := 0) (b := 2 ^ n - 1) (by omega) (by omega) (by omega))) (by rw [h14_0]; decide)) (fun h14_0 => ?_)
  refine lv_iconst (v := nI 0) hx hb dX1_excess_17 (by decide) ?_
  refine lv_goto (tgt := 22) hx hb dX1_excess_18 (by decide) ?_
  refine w_putM (v := .int (nI 0)) (ty := .int) S in_w hK hP (wD_of hq rfl) hS rfl 0 (by decide) fl_45 rfl (by decide +kernel) rfl rfl (Nat.le_of_ble_eq_true rfl) rfl dX1_excess_22 (fun H locs hP hS => ?_)
  have hP : va_P D cls2 (mW q cI cD (nI 0) (nI n) rC hh fi fo fw fe fr ff fp fl fc) H := hP
  refine lv_aload_n hx hb dX1_excess_25 rfl (lv_at hl 0 rfl) ?_
  refine w_getM (own := RX1) (v := .int (nI 0)) S in_w hK hP rfl 0 (by decide) fl_45 rfl rfl dX1_excess_26 ?_
  refine lv_if_le (tgt := 36) hx hb dX1_excess_29 (by decide) (fun h29_1 => ?_) (fun h29_1 => absurd (by decide) h29_1)
  refine lv_aload_n hx hb dX1_excess_36 rfl (lv_at hl 0 rfl) ?_
  refine lv_iload_n hx hb dX1_excess_37 rfl (lv_at hl 1 rfl) ?_
  refine vp_callSi (W.runV (As := [.int (nI s)]) (rest := []) S (c_X1_excessOf hn hI hO hW (s := s) (by omega)) (cwV 1 hts gX1_excess_X1_excessOf rfl rfl rfl hdX1_excessOf ⟨Nat.le_of_ble_eq_true rfl, Nat.le_of_ble_eq_true rfl⟩) (preV hK hP rfl rfl) rfl rfl hl.1 rfl (lv_room (Nat.le_of_ble_eq_true rfl)) dX1_excess_38 ⟨Nat.zero_le _, Nat.zero_le _⟩) (fun r_2 er_2 => ?_)
  subst er_2
  subst hQ
  exact W.iret hx hb hr (fun t ht hWm => ⟨⟨_, (), rfl, rfl, (show va_P D cls2 _ t.heap from by rw [ht]; exact hP)⟩, hS.F ht⟩) hS.2.2 dX1_excess_41
set_option maxHeartbeats 4000000 in
set_option maxRecDepth 100000 in
theorem c_X1_excessx {l : Launch} {D : va_G} {q : Nat → Nat} {cI cD : ClassId} {th rC : Int32} {hh : Int64} {fi fo fw : Nat → Int32} {fe : Nat → UInt64} {fr : Nat → Int32} {ff : Nat → UInt64} {fp fl fc : Nat → Int32} {n : Nat} (hn : 3 ≤ n ∧ n ≤ 6) {x : Int32} (hxx : wth x (nI 0) (nI (2 ^ n - 1)) = false) (hq : qD q) : Met l yX1_excess wsX1_excess rX1_excess (va_Pc [.ref (q 0), .int x] (wPre D (tys2 cI cD) (mW q cI cD th (nI n) rC hh fi fo fw fe fr ff fp fl fc))) (va_Qi (fun r (u : Unit) => True) (fun u t => va_P D cls2 (mW q cI cD (nI 1) (nI n) rC hh fi fo fw fe fr ff fp fl fc) t.heap) (qA q)) 0 0 (qA q) := by
  refine met_intro (cc := cX1_excess) (maxL := 2) (ret := (some .int)) (own := RX1) (by decide) rfl rfl (Nat.le_of_ble_eq_true rfl) ?_
  intro pp ee ss mm args below meth cd Q ls hQ S hr hlocks hv hB hl
  obtain ⟨hx, hb, hml, hown, hts⟩ := id S
  obtain ⟨hP, hK⟩ := hB
  have in_w : ∀ w ∈ wsX10, w ∈ wsX1_excess := by decide +kernel
  have fl_7 : Cond.fieldLink RX1 7 RX1 (TX1 1).2.1 (TX1 1).2.2.1 ∈ wsX1_excess := by decide +kernel
  have fl_45 : Cond.fieldLink RX1 45 RX1 (TX1 0).2.1 (TX1 0).2.2.1 ∈ wsX1_excess := by decide +kernel
  have hS : va_S (qA q) ss.heap ss.heap [] := va_S.rf
  generalize hHg : ss.heap = H at hP
  have hS : va_S (qA q) ss.heap H [] := by rw [← hHg]; exact hS
  suffices hgo : ∀ locs : List Loc, va_S (qA q) ss.heap H locs → W pp l ee rX1_excess ss mm args below meth cd H locs 0 0 Q (F0 mm 0 ls []) by
    first | exact hgo [] hS | (rw [hHg]; exact hgo [] hS)
  clear hS
  intro locs hS
  have hl : lv_has ls 2 [(0, .ref (q 0)), (1, .int x)] := hl
  refine lv_aload_n hx hb dX1_excess_0 rfl (lv_at hl 0 rfl) ?_
  refine lv_iload_n hx hb dX1_excess_1 rfl (lv_at hl 1 rfl) ?_
  refine lv_iconst (v := nI 0) hx hb dX1_excess_2 (by decide) ?_
  refine lv_iconst (v := nI 1) hx hb dX1_excess_3 (by decide) ?_
  refine lv_aload_n hx hb dX1_excess_4 rfl (lv_at hl 0 rfl) ?_
  refine w_getM (own := RX1) (v := .int (nI n)) S in_w hK hP rfl 1 (by decide) fl_7 rfl rfl dX1_excess_5 ?_
  refine lv_ishl hx hb dX1_excess_8 ?_
  refine lv_iconst (v := nI 1) hx hb dX1_excess_9 (by decide) ?_
  refine lv_isub hx hb dX1_excess_10 ?_
  rw [allA hn]
  refine vp_callSi (W.runS (As := [.int x, .int (nI 0), .int (nI (2 ^ n - 1))]) (rest := [.ref (q 0)]) S (c_X1_within (v := x) (a := nI 0) (b := nI (2 ^ n - 1))) (va_cwS 3 hts gX1_excess_X1_within rfl rfl rfl hdX1_within ⟨Nat.le_of_ble_eq_true rfl, Nat.le_of_ble_eq_true rfl⟩) preS rfl rfl hl.1 rfl (lv_room (Nat.le_of_ble_eq_true rfl)) dX1_excess_11 ⟨Nat.zero_le _, Nat.zero_le _⟩) (fun r_1 er_1 => ?_)
  subst er_1
  refine w_ifBeq (tgt := 21) hx hb dX1_excess_14 (by decide) (fun h14_0 => ?_) (fun h14_0 => absurd (hxx) (by rw [h14_0]; decide))
  refine lv_iconst (v := nI 1) hx hb dX1_excess_21 (by decide) ?_
  refine w_putM (v := .int (nI 1)) (ty := .int) S in_w hK hP (wD_of hq rfl) hS rfl 0 (by decide) fl_45 rfl (by decide +kernel) rfl rfl (Nat.le_of_ble_eq_true rfl) rfl dX1_excess_22 (fun H locs hP hS => ?_)
  have hP : va_P D cls2 (mW q cI cD (nI 1) (nI n) rC hh fi fo fw fe fr ff fp fl fc) H := hP
  refine lv_aload_n hx hb dX1_excess_25 rfl (lv_at hl 0 rfl) ?_
  refine w_getM (own := RX1) (v := .int (nI 1)) S in_w hK hP rfl 0 (by decide) fl_45 rfl rfl dX1_excess_26 ?_
  refine lv_if_le (tgt := 36) hx hb dX1_excess_29 (by decide) (fun h29_1 => absurd h29_1 (by decide)) (fun h29_1 => ?_)
  refine lv_iconst (v := nI 0) hx hb dX1_excess_32 (by decide) ?_
  refine lv_goto (tgt := 41) hx hb dX1_excess_33 (by decide) ?_
  subst hQ
  exact W.iret hx hb hr (fun t ht hWm => ⟨⟨_, (), rfl, trivial, (show va_P D cls2 _ t.heap from by rw [ht]; exact hP)⟩, hS.F ht⟩) hS.2.2 dX1_excess_41
