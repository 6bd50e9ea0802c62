abbrev rX1_thrown : Room := { frames := 0, cells := 0, slots := 0, locals := 0 }
theorem hdX1_thrown : yX1_thrown.cls = RX1 ∧ yX1_thrown.cls ≠ "java/lang/invoke/MethodHandle" ∧ yX1_thrown.cls ≠ "java/lang/invoke/VarHandle" ∧ (parseMethodDescriptor yX1_thrown.desc).map (fun d => d.parameters.length) = some 0 := by decide +kernel
set_option maxHeartbeats 4000000 in
set_option maxRecDepth 100000 in
theorem c_X1_thrown {l : Launch} {D : va_G} {q : Nat → Nat} {cI cD : ClassId} {th rC : Int32} {hh : Int64} {fi fo fw : Nat → Int32} {fe : Nat → UInt64} {fr : Nat → Int32} {ff : Nat → UInt64} {fp fl fc : Nat → Int32} {n : Nat}  : Met l yX1_thrown wsX1_thrown rX1_thrown (va_Pc [.ref (q 0)] (wPre D (tys2 cI cD) (mW q cI cD th (nI n) rC hh fi fo fw fe fr ff fp fl fc))) (vp_Si (fun r => r = th)) 0 0 (fun _ => False) := by
  refine met_intro (cc := cX1_thrown) (maxL := 1) (ret := (some .int)) (own := RX1) (by decide) rfl rfl (Nat.le_of_ble_eq_true rfl) ?_
  intro pp ee ss mm args below meth cd Q ls hQ S hr hlocks hv hB hl
  obtain ⟨hx, hb, hml, hown, hts⟩ := id S
  obtain ⟨hP, hK⟩ := hB
  have in_w : ∀ w ∈ wsX10, w ∈ wsX1_thrown := by decide +kernel
  have fl_45 : Cond.fieldLink RX1 45 RX1 (TX1 0).2.1 (TX1 0).2.2.1 ∈ wsX1_thrown := by decide +kernel
  have hl : lv_has ls 1 [(0, .ref (q 0))] := hl
  refine lv_aload_n hx hb dX1_thrown_0 rfl (lv_at hl 0 rfl) ?_
  refine w_getM (own := RX1) (v := .int th) S in_w hK hP rfl 0 (by decide) fl_45 rfl rfl dX1_thrown_1 ?_
  subst hQ
  exact W.iret hx hb hr (fun t ht hWm => ⟨_, rfl, rfl, ht⟩) (fun q h => absurd h List.not_mem_nil) dX1_thrown_4
abbrev rX1_within : Room := { frames := 0, cells := 0, slots := 0, locals := 0 }
theorem hdX1_within : yX1_within.cls ≠ "java/lang/invoke/MethodHandle" ∧ yX1_within.cls ≠ "java/lang/invoke/VarHandle" ∧ (parseMethodDescriptor yX1_within.desc).map (fun d => d.parameters.length) = some 3 := by decide +kernel
set_option maxHeartbeats 4000000 in
set_option maxRecDepth 100000 in
theorem c_X1_within {l : Launch} {v a b : Int32} : Met l yX1_within wsX1_within rX1_within (va_Pc [.int v, .int a, .int b] (fun _ => True)) (vp_Si (fun r => r = bI (wth v a b))) 0 0 (fun _ => False) := by
  refine met_intro (cc := cX1_within) (maxL := 3) (ret := (some .boolean)) (own := RX1) (by decide) rfl rfl (Nat.le_of_ble_eq_true rfl) ?_
  intro pp ee ss mm args below meth cd Q ls hQ S hr hlocks hv hB hl
  obtain ⟨hx, hb, hml, hown, hts⟩ := id S
  have hl : lv_has ls 3 [(0, .int v), (1, .int a), (2, .int b)] := hl
  refine lv_iload_n hx hb dX1_within_0 rfl (lv_at hl 0 rfl) ?_
  refine lv_iload_n hx hb dX1_within_1 rfl (lv_at hl 1 rfl) ?_
  refine lv_icmp_lt (tgt := 14) hx hb dX1_within_2 (by decide) (fun h2_0 => ?_) (fun h2_0 => ?_)
  · refine lv_iconst (v := nI 0) hx hb dX1_within_14 (by decide) ?_
    subst hQ
    exact W.zret hx hb hr (by decide) (fun t ht hWm => ⟨_, rfl, (by unfold wth; simp only [h2_0, reduceIte]; rfl), ht⟩) (fun q h => absurd h List.not_mem_nil) dX1_within_15
  · refine lv_iload_n hx hb dX1_within_5 rfl (lv_at hl 0 rfl) ?_
    refine lv_iload_n hx hb dX1_within_6 rfl (lv_at hl 2 rfl) ?_
    refine lv_icmp_gt (tgt := 14) hx hb dX1_within_7 (by decide) (fun h7_1 => ?_) (fun h7_1 => ?_)
    · refine lv_iconst (v := nI 0) hx hb dX1_within_14 (by decide) ?_
      subst hQ
      exact W.zret hx hb hr (by decide) (fun t ht hWm => ⟨_, rfl, (by unfold wth; simp only [h2_0, h7_1, reduceIte]; rfl), ht⟩) (fun q h => absurd h List.not_mem_nil) dX1_within_15
    · refine lv_iconst (v := nI 1) hx hb dX1_within_10 (by decide) ?_
      refine lv_goto (tgt := 15) hx hb dX1_within_11 (by decide) ?_
      subst hQ
      exact W.zret hx hb hr (by decide) (fun t ht hWm => ⟨_, rfl, (by unfold wth; simp only [h2_0, h7_1, reduceIte]; rfl), ht⟩) (fun q h => absurd h List.not_mem_nil) dX1_within_15
abbrev rX1_isArm : Room := { frames := 1, cells := 0, slots := 0, locals := 22 }
theorem hdX1_isArm : yX1_isArm.cls = RX1 ∧ yX1_isArm.cls ≠ "java/lang/invoke/MethodHandle" ∧ yX1_isArm.cls ≠ "java/lang/invoke/VarHandle" ∧ (parseMethodDescriptor yX1_isArm.desc).map (fun d => d.parameters.length) = some 1 := by decide +kernel
set_option maxHeartbeats 4000000 in
set_option maxRecDepth 100000 in
theorem c_X1_isArm {l : Launch} {D : va_G} {q : Nat → Nat} {cI cD : ClassId} {th rC : Int32} {hh : Int64} {fi fo fw : Nat → Int32} {fe : Nat → UInt64} {fr : Nat → Int32} {ff : Nat → UInt64} {fp fl fc : Nat → Int32} {n : Nat} {x : Int32} : Met l yX1_isArm wsX1_isArm rX1_isArm (va_Pc [.ref (q 0), .int x] (wPre D (tys2 cI cD) (mW q cI cD th (nI n) rC hh fi fo fw fe fr ff fp fl fc))) (vp_Si (fun r => r = bI (armB n x))) 0 0 (fun _ => False) := by
  refine met_intro (cc := cX1_isArm) (maxL := 2) (ret := (some .boolean)) (own := RX1) (by decide) rfl rfl (Nat.le_of_ble_eq_true rfl) ?_
  intro pp ee ss mm args below meth cd Q ls hQ S hr hlocks hv hB hl
  obtain ⟨hx, hb, hml, hown, hts⟩ := id S
  obtain ⟨hP, hK⟩ := hB
  have in_w : ∀ w ∈ wsX10, w ∈ wsX1_isArm := by decide +kernel
  have fl_7 : Cond.fieldLink RX1 7 RX1 (TX1 1).2.1 (TX1 1).2.2.1 ∈ wsX1_isArm := by decide +kernel
  have hl : lv_has ls 2 [(0, .ref (q 0)), (1, .int x)] := hl
  refine lv_iload_n hx hb dX1_isArm_0 rfl (lv_at hl 1 rfl) ?_
  refine lv_iconst (v := nI 0) hx hb dX1_isArm_1 (by decide) ?_
  refine lv_aload_n hx hb dX1_isArm_2 rfl (lv_at hl 0 rfl) ?_
  refine w_getM (own := RX1) (v := .int (nI n)) S in_w hK hP rfl 1 (by decide) fl_7 rfl rfl dX1_isArm_3 ?_
  refine lv_iconst (v := nI 1) hx hb dX1_isArm_6 (by decide) ?_
  refine lv_isub hx hb dX1_isArm_7 ?_
  refine vp_callSi (W.runS (As := [.int x, .int (nI 0), .int ((nI n) - (nI 1))]) (rest := []) S (c_X1_within (v := x) (a := nI 0) (b := (nI n) - (nI 1))) (va_cwS 3 hts gX1_isArm_X1_within rfl rfl rfl hdX1_within ⟨Nat.le_of_ble_eq_true rfl, Nat.le_of_ble_eq_true rfl⟩) preS rfl rfl hl.1 rfl (lv_room (Nat.le_of_ble_eq_true rfl)) dX1_isArm_8 ⟨Nat.zero_le _, Nat.zero_le _⟩) (fun r_1 er_1 => ?_)
  subst er_1
  subst hQ
  exact W.zret hx hb hr (nar_b _) (fun t ht hWm => ⟨_, rfl, rfl, ht⟩) (fun q h => absurd h List.not_mem_nil) dX1_isArm_11
abbrev rX1_areArms : Room := { frames := 2, cells := 0, slots := 0, locals := 43 }
theorem hdX1_areArms : yX1_areArms.cls = RX1 ∧ yX1_areArms.cls ≠ "java/lang/invoke/MethodHandle" ∧ yX1_areArms.cls ≠ "java/lang/invoke/VarHandle" ∧ (parseMethodDescriptor yX1_areArms.desc).map (fun d => d.parameters.length) = some 2 := by decide +kernel
set_option maxHeartbeats 4000000 in
set_option maxRecDepth 100000 in
theorem c_X1_areArms {l : Launch} {D : va_G} {q : Nat → Nat} {cI cD : ClassId} {th rC : Int32} {hh : Int64} {fi fo fw : Nat → Int32} {fe : Nat → UInt64} {fr : Nat → Int32} {ff : Nat → UInt64} {fp fl fc : Nat → Int32} {n : Nat} {x y : Int32} : Met l yX1_areArms wsX1_areArms rX1_areArms (va_Pc [.ref (q 0), .int x, .int y] (wPre D (tys2 cI cD) (mW q cI cD th (nI n) rC hh fi fo fw fe fr ff fp fl fc))) (vp_Si (fun r => r = bI (armB n x && armB n y))) 0 0 (fun _ => False) := by
  refine met_intro (cc := cX1_areArms) (maxL := 3) (ret := (some .boolean)) (own := RX1) (by decide) rfl rfl (Nat.le_of_ble_eq_true rfl) ?_
  intro pp ee ss mm args below meth cd Q ls hQ S hr hlocks hv hB hl
  obtain ⟨hx, hb, hml, hown, hts⟩ := id S
  obtain ⟨hP, hK⟩ := hB
  have hl : lv_has ls 3 [(0, .ref (q 0)), (1, .int x), (2, .int y)] := hl
  refine lv_aload_n hx hb dX1_areArms_0 rfl (lv_at hl 0 rfl) ?_
  refine lv_iload_n hx hb dX1_areArms_1 rfl (lv_at hl 1 rfl) ?_
  refine vp_callSi (W.runV (As := [.int x]) (rest := []) S (c_X1_isArm (x := x)) (cwV 1 hts gX1_areArms_X1_isArm rfl rfl rfl hdX1_isArm ⟨Nat.le_of_ble_eq_true rfl, Nat.le_of_ble_eq_true rfl⟩) (preV hK hP rfl rfl) rfl rfl hl.1 rfl (lv_room (Nat.le_of_ble_eq_true rfl)) dX1_areArms_2 ⟨Nat.zero_le _, Nat.zero_le _⟩) (fun r_1 er_1 => ?_)
  subst er_1
  refine w_ifBeq (tgt := 20) hx hb dX1_areArms_5 (by decide) (fun h5_0 => ?_) (fun h5_0 => ?_)
  · refine lv_iconst (v := nI 0) hx hb dX1_areArms_20 (by decide) ?_
    subst hQ
    exact W.zret hx hb hr (by decide) (fun t ht hWm => ⟨_, rfl, (by simp only [h5_0]; rfl), ht⟩) (fun q h => absurd h List.not_mem_nil) dX1_areArms_21
  · refine lv_aload_n hx hb dX1_areArms_8 rfl (lv_at hl 0 rfl) ?_
    refine lv_iload_n hx hb dX1_areArms_9 rfl (lv_at hl 2 rfl) ?_
    refine vp_callSi (W.runV (As := [.int y]) (rest := []) S (c_X1_isArm (x := y)) (cwV 1 hts gX1_areArms_X1_isArm rfl rfl rfl hdX1_isArm ⟨Nat.le_of_ble_eq_true rfl, Nat.le_of_ble_eq_true rfl⟩) (preV hK hP rfl rfl) rfl rfl hl.1 rfl (lv_room (Nat.le_of_ble_eq_true rfl)) dX1_areArms_10 ⟨Nat.zero_le _, Nat.zero_le _⟩) (fun r_2 er_2 => ?_)
    subst er_2
    refine w_ifBeq (tgt := 20) hx hb dX1_areArms_13 (by decide) (fun h13_1 => ?_) (fun h13_1 => ?_)
    · refine lv_iconst (v := nI 0) hx hb dX1_areArms_20 (by decide) ?_
      subst hQ
      exact W.zret hx hb hr (by decide) (fun t ht hWm => ⟨_, rfl, (by simp only [h5_0, h13_1]; rfl), ht⟩) (fun q h => absurd h List.not_mem_nil) dX1_areArms_21
    · refine lv_iconst (v := nI 1) hx hb dX1_areArms_16 (by decide) ?_
      refine lv_goto (tgt := 21) hx hb dX1_areArms_17 (by decide) ?_
      subst hQ
      exact W.zret hx hb hr (by decide) (fun t ht hWm => ⟨_, rfl, (by simp only [h5_0, h13_1]; rfl), ht⟩) (fun q h => absurd h List.not_mem_nil) dX1_areArms_21
abbrev rX1_layWeights : Room := { frames := 0, cells := 0, slots := 0, locals := 0 }
theorem hdX1_layWeights : yX1_layWeights.cls = RX1 ∧ yX1_layWeights.cls ≠ "java/lang/invoke/MethodHandle" ∧ yX1_layWeights.cls ≠ "java/lang/invoke/VarHandle" ∧ (parseMethodDescriptor yX1_layWeights.desc).map (fun d => d.parameters.length) = some 0 := by decide +kernel
set_option maxHeartbeats 4000000 in
set_option maxRecDepth 100000 in
theorem c_X1_layWeights {l : Launch} {D : va_G} {q : Nat → Nat} {cI cD : ClassId} {th rC : Int32} {hh : Int64} {fi fo fw : Nat → Int32} {fe : Nat → UInt64} {fr : Nat → Int32} {ff : Nat → UInt64} {fp fl fc : Nat → Int32} {n : Nat}  (hq : qD q) : Met l yX1_layWeights wsX1_layWeights rX1_layWeights (va_Pc [.ref (q 0)] (wPre D (tys2 cI cD) (mW q cI cD th (nI n) rC hh fi fo fw fe fr ff fp fl fc))) (va_Qv (fun (u : Nat → UInt64) => u = lwR fw 36 fe) (fun u t => va_P D cls2 (mW q cI cD th (nI n) (nI 0) hh fi fo fw u fr ff fp fl fc) t.heap) (qA q)) 0 0 (qA q) := by
  refine met_intro (cc := cX1_layWeights) (maxL := 2) (ret := none) (own := RX1) (by decide) rfl rfl (Nat.le_of_ble_eq_true rfl) ?_
  intro pp ee ss mm args below meth cd Q ls hQ S hr hlocks hv hB hl
  obtain ⟨hx, hb, hml, hown, hts⟩ := id S
  obtain ⟨hP, hK⟩ := hB
  have in_w : ∀ w ∈ wsX10, w ∈ wsX1_layWeights := by decide +kernel
  have fl_20 : Cond.fieldLink RX1 20 RX1 (TX1 4).2.1 (TX1 4).2.2.1 ∈ wsX1_layWeights := by decide +kernel
  have fl_23 : Cond.fieldLink RX1 23 RX1 (TX1 5).2.1 (TX1 5).2.2.1 ∈ wsX1_layWeights := by decide +kernel
  have fl_52 : Cond.fieldLink RX1 52 RX1 (TX1 6).2.1 (TX1 6).2.2.1 ∈ wsX1_layWeights := by decide +kernel
  have hS : va_S (qA q) ss.heap ss.heap [] := va_S.rf
  generalize hHg : ss.heap = H at hP
  have hS : va_S (qA q) ss.heap H [] := by rw [← hHg]; exact hS
  suffices hgo : ∀ locs : List Loc, va_S (qA q) ss.heap H locs → W pp l ee rX1_layWeights ss mm args below meth cd H locs 0 0 Q (F0 mm 0 ls []) by
    first | exact hgo [] hS | (rw [hHg]; exact hgo [] hS)
  clear hS
  intro locs hS
  have hl : lv_has ls 2 [(0, .ref (q 0))] := hl
  refine lv_iconst (v := nI 0) hx hb dX1_layWeights_0 (by decide) ?_
  refine lv_istore_n (lv' := [(1, .int (nI 0)), (0, .ref (q 0))]) hx hb dX1_layWeights_1 rfl hl (by decide) rfl (fun ls hl => ?_)
  have lp2 : ∀ (j k : Nat), k + j = 36 → ∀ (H : Heap) (locs : List Loc), va_P D cls2 (mW q cI cD th (nI n) rC hh fi fo fw (lwR fw k fe) fr ff fp fl fc) H → va_S (qA q) ss.heap H locs → ∀ ls : Array Slot, lv_has ls 2 [(0, .ref (q 0)), (1, .int (nI k))] → W pp l ee rX1_layWeights ss mm args below meth cd H locs 0 0 Q (F0 mm 2 ls []) := by
    intro j
    induction j with
    | zero =>
      intro k hk_k H locs hP hS ls hl
      have hke_k : 36 = k := by omega
      subst hke_k
      refine lv_iload_n hx hb dX1_layWeights_2 rfl (lv_at hl 1 rfl) ?_
      refine lv_bipush (v := nI 36) hx hb dX1_layWeights_3 (by decide) ?_
      refine lv_icmp_ge (tgt := 27) hx hb dX1_layWeights_5 (by decide) (fun h5_0 => ?_) (fun h5_0 => absurd (Int32.le_refl _) h5_0)
      refine lv_aload_n hx hb dX1_layWeights_27 rfl (lv_at hl 0 rfl) ?_
      refine lv_iconst (v := nI 0) hx hb dX1_layWeights_28 (by decide) ?_
      refine w_putM (v := .int (nI 0)) (ty := .int) S in_w hK hP (wD_of hq rfl) hS rfl 6 (by decide) fl_52 rfl (by decide +kernel) rfl rfl (Nat.le_of_ble_eq_true rfl) rfl dX1_layWeights_29 (fun H locs hP hS => ?_)
      have hP : va_P D cls2 (mW q cI cD th (nI n) (nI 0) hh fi fo fw (lwR fw 36 fe) fr ff fp fl fc) H := hP
      subst hQ
      exact W.vret hx hb hr (fun t ht hWm => ⟨⟨lwR fw 36 fe, rfl, rfl, (show va_P D cls2 _ t.heap from by rw [ht]; exact hP)⟩, hS.F ht⟩) hS.2.2 dX1_layWeights_32
    | succ j ih =>
      intro k hk_k H locs hP hS ls hl
      have hlt_k : k < 36 := by omega
      refine lv_iload_n hx hb dX1_layWeights_2 rfl (lv_at hl 1 rfl) ?_
      refine lv_bipush (v := nI 36) hx hb dX1_layWeights_3 (by decide) ?_
      refine lv_icmp_ge (tgt := 27) hx hb dX1_layWeights_5 (by decide) (fun h5_0 => absurd h5_0 (nI_ge hlt_k (by omega))) (fun h5_0 => ?_)
      refine lv_aload_n hx hb dX1_layWeights_8 rfl (lv_at hl 0 rfl) ?_
      refine w_getM (own := RX1) (v := .ref (q 4)) S in_w hK hP rfl 5 (by decide) fl_23 rfl rfl dX1_layWeights_9 ?_
      refine lv_iload_n hx hb dX1_layWeights_12 rfl (lv_at hl 1 rfl) ?_
      refine lv_aload_n hx hb dX1_layWeights_13 rfl (lv_at hl 0 rfl) ?_
      refine w_getM (own := RX1) (v := .ref (q 3)) S in_w hK hP rfl 4 (by decide) fl_20 rfl rfl dX1_layWeights_14 ?_
      refine lv_iload_n hx hb dX1_layWeights_17 rfl (lv_at hl 1 rfl) ?_
      refine w_iald hx hb hK hP 3 0 rfl rfl (j := k) (v := fw k) rfl (by omega) (by decide) dX1_layWeights_18 ?_
      refine lv_i2d hx hb dX1_layWeights_19 ?_
      refine w_dast hx hb hK hP (wD_of hq rfl) hS 4 1 rfl rfl (j := k) (x := FP.i2d (fw k)) (by omega) (by decide) dX1_layWeights_20 (fun H locs hP _ hS => ?_)
      have hP : va_P D cls2 (mW q cI cD th (nI n) rC hh fi fo fw (vf_upd (lwR fw k fe) k (FP.i2d (fw k))) fr ff fp fl fc) H := hP
      refine lv_iinc (v := nI (k + 1)) (lv' := [(1, .int (nI (k + 1))), (0, .ref (q 0))]) hx hb dX1_layWeights_21 hl (k := 1) rfl (by rw [show Int32.ofInt 1 = nI 1 from by decide, nI_add]) (by decide) rfl (fun ls hl => ?_)
      refine lv_goto (tgt := 2) hx hb dX1_layWeights_24 (by decide) ?_
      have eq_2 : lwR fw (k + 1) fe = vf_upd (lwR fw k fe) k (FP.i2d (fw k)) := by rfl
      rw [← eq_2] at hP
      exact ih (k + 1) (by omega) _ _ hP hS ls (lv_sub hl [1, 0] rfl)
  exact lp2 (36 - 0) 0 (by omega) _ _ hP hS ls (lv_sub hl [1, 0] rfl)
abbrev rX1_begin : Room := { frames := 1, cells := 0, slots := 0, locals := 21 }
theorem hdX1_begin : yX1_begin.cls = RX1 ∧ yX1_begin.cls ≠ "java/lang/invoke/MethodHandle" ∧ yX1_begin.cls ≠ "java/lang/invoke/VarHandle" ∧ (parseMethodDescriptor yX1_begin.desc).map (fun d => d.parameters.length) = some 0 := by decide +kernel
set_option maxHeartbeats 4000000 in
set_option maxRecDepth 100000 in
theorem c_X1_begin {l : Launch} {D : va_G} {q : Nat → Nat} {cI cD : ClassId} {th rC : Int32} {hh : Int64} {fi fo fw : Nat → Int32} {fe : Nat → UInt64} {fr : Nat → Int32} {ff : Nat → UInt64} {fp fl fc : Nat → Int32} {n : Nat} (hn : 3 ≤ n ∧ n ≤ 6)  (hq : qD q) : Met l yX1_begin wsX1_begin rX1_begin (va_Pc [.ref (q 0)] (wPre D (tys2 cI cD) (mW q cI cD th (nI n) rC hh fi fo fw fe fr ff fp fl fc))) (va_Qv (fun (u : (Nat → Int32) × (Nat → Int32) × (Nat → Int32) × (Nat → UInt64)) => ag1 n u.1 (fun _ => nI 0) ∧ ag1 n u.2.1 (fun _ => nI 0) ∧ ag2 n u.2.2.1 w0 ∧ ag2 n u.2.2.2 (lay w0)) (fun u t => va_P D cls2 (mW q cI cD th (nI n) (nI 0) hh u.1 u.2.1 u.2.2.1 u.2.2.2 fr ff fp fl fc) t.heap) (qA q)) 0 0 (qA q) := by
  refine met_intro (cc := cX1_begin) (maxL := 2) (ret := none) (own := RX1) (by decide) rfl rfl (Nat.le_of_ble_eq_true rfl) ?_
  intro pp ee ss mm args below meth cd Q ls hQ S hr hlocks hv hB hl
  obtain ⟨hx, hb, hml, hown, hts⟩ := id S
  obtain ⟨hP, hK⟩ := hB
  have in_w : ∀ w ∈ wsX10, w ∈ wsX1_begin := by decide +kernel
  have fl_13 : Cond.fieldLink RX1 13 RX1 (TX1 2).2.1 (TX1 2).2.2.1 ∈ wsX1_begin := by decide +kernel
  have fl_17 : Cond.fieldLink RX1 17 RX1 (TX1 3).2.1 (TX1 3).2.2.1 ∈ wsX1_begin := by decide +kernel
  have fl_20 : Cond.fieldLink RX1 20 RX1 (TX1 4).2.1 (TX1 4).2.2.1 ∈ wsX1_begin := by decide +kernel
  have hS : va_S (qA q) ss.heap ss.heap [] := va_S.rf
  generalize hHg : ss.heap = H at hP
  have hS : va_S (qA q) ss.heap H [] := by rw [← hHg]; exact hS
  suffices hgo : ∀ locs : List Loc, va_S (qA q) ss.heap H locs → W pp l ee rX1_begin ss mm args below meth cd H locs 0 0 Q (F0 mm 0 ls []) by
    first | exact hgo [] hS | (rw [hHg]; exact hgo [] hS)
  clear hS
  intro locs hS
  have hl : lv_has ls 2 [(0, .ref (q 0))] := hl
  refine lv_iconst (v := nI 0) hx hb dX1_begin_0 (by decide) ?_
  refine lv_istore_n (lv' := [(1, .int (nI 0)), (0, .ref (q 0))]) hx hb dX1_begin_1 rfl hl (by decide) rfl (fun ls hl => ?_)
  have lp2 : ∀ (j k : Nat), k + j = 36 → ∀ (H : Heap) (locs : List Loc), va_P D cls2 (mW q cI cD th (nI n) rC hh fi fo (bgR k fw) fe fr ff fp fl fc) H → va_S (qA q) ss.heap H locs → ∀ ls : Array Slot, lv_has ls 2 [(0, .ref (q 0)), (1, .int (nI k))] → W pp l ee rX1_begin ss mm args below meth cd H locs 0 0 Q (F0 mm 2 ls []) := by
    intro j
    induction j with
    | zero =>
      intro k hk_k H locs hP hS ls hl
      have hke_k : 36 = k := by omega
      subst hke_k
      refine lv_iload_n hx hb dX1_begin_2 rfl (lv_at hl 1 rfl) ?_
      refine lv_bipush (v := nI 36) hx hb dX1_begin_3 (by decide) ?_
      refine lv_icmp_ge (tgt := 36) hx hb dX1_begin_5 (by decide) (fun h5_0 => ?_) (fun h5_0 => absurd (Int32.le_refl _) h5_0)
      refine lv_iconst (v := nI 0) hx hb dX1_begin_36 (by decide) ?_
      refine lv_istore_n (lv' := [(1, .int (nI 0)), (0, .ref (q 0))]) hx hb dX1_begin_37 rfl hl (by decide) rfl (fun ls hl => ?_)
      have lp38 : ∀ (j k : Nat), k + j = 6 → ∀ (H : Heap) (locs : List Loc), va_P D cls2 (mW q cI cD th (nI n) rC hh (zrO k fi) (zrO k fo) (bgR 36 fw) fe fr ff fp fl fc) H → va_S (qA q) ss.heap H locs → ∀ ls : Array Slot, lv_has ls 2 [(0, .ref (q 0)), (1, .int (nI k))] → W pp l ee rX1_begin ss mm args below meth cd H locs 0 0 Q (F0 mm 38 ls []) := by
        intro j
        induction j with
        | zero =>
          intro k hk_k H locs hP hS ls hl
          have hke_k : 6 = k := by omega
          subst hke_k
          refine lv_iload_n hx hb dX1_begin_38 rfl (lv_at hl 1 rfl) ?_
          refine lv_bipush (v := nI 6) hx hb dX1_begin_39 (by decide) ?_
          refine lv_icmp_ge (tgt := 64) hx hb dX1_begin_41 (by decide) (fun h41_1 => ?_) (fun h41_1 => absurd (Int32.le_refl _) h41_1)
          refine lv_aload_n hx hb dX1_begin_64 rfl (lv_at hl 0 rfl) ?_
          refine va_callv (va_runV (As := []) (rest := []) S (c_X1_layWeights hq) (cwV 0 hts gX1_begin_X1_layWeights rfl rfl rfl hdX1_layWeights ⟨Nat.le_of_ble_eq_true rfl, Nat.le_of_ble_eq_true rfl⟩) (preV hK hP rfl rfl) rfl rfl hl.1 rfl (lv_room (Nat.le_of_ble_eq_true rfl)) dX1_begin_65 ⟨Nat.zero_le _, Nat.zero_le _⟩) hS (fun _ _ h => h) (fun _ h => h) (fun u_2 t H locs ht hvm hw_3 hB hz1 hk1 hS => ?_)
          replace hB : va_P D cls2 _ t.heap := hB
          rw [ht] at hB
          subst hw_3
          have hP : va_P D cls2 (mW q cI cD th (nI n) (nI 0) hh (zrO 6 fi) (zrO 6 fo) (bgR 36 fw) (lwR (bgR 36 fw) 36 fe) fr ff fp fl fc) H := hB
          subst hQ
          exact W.vret hx hb hr (fun t ht hWm => ⟨⟨(zrO 6 fi, zrO 6 fo, bgR 36 fw, lwR (bgR 36 fw) 36 fe), rfl, ⟨zr_raw hn.2, zr_raw hn.2, bgR_ag hn.2, lwR_ag hn.2 (bgR_ag hn.2)⟩, (show va_P D cls2 _ t.heap from by rw [ht]; exact hP)⟩, hS.F ht⟩) hS.2.2 dX1_begin_68
        | succ j ih =>
          intro k hk_k H locs hP hS ls hl
          have hlt_k : k < 6 := by omega
          refine lv_iload_n hx hb dX1_begin_38 rfl (lv_at hl 1 rfl) ?_
          refine lv_bipush (v := nI 6) hx hb dX1_begin_39 (by decide) ?_
          refine lv_icmp_ge (tgt := 64) hx hb dX1_begin_41 (by decide) (fun h41_1 => absurd h41_1 (nI_ge hlt_k (by omega))) (fun h41_1 => ?_)
          refine lv_aload_n hx hb dX1_begin_44 rfl (lv_at hl 0 rfl) ?_
          refine w_getM (own := RX1) (v := .ref (q 1)) S in_w hK hP rfl 2 (by decide) fl_13 rfl rfl dX1_begin_45 ?_
          refine lv_iload_n hx hb dX1_begin_48 rfl (lv_at hl 1 rfl) ?_
          refine lv_iconst (v := nI 0) hx hb dX1_begin_49 (by decide) ?_
          refine w_iast hx hb hK hP (wD_of hq rfl) hS 1 0 rfl rfl (j := k) (x := nI 0) (by omega) (by decide) dX1_begin_50 (fun H locs hP _ hS => ?_)
          have hP : va_P D cls2 (mW q cI cD th (nI n) rC hh (upd (zrO k fi) k (nI 0)) (zrO k fo) (bgR 36 fw) fe fr ff fp fl fc) H := hP
          refine lv_aload_n hx hb dX1_begin_51 rfl (lv_at hl 0 rfl) ?_
          refine w_getM (own := RX1) (v := .ref (q 2)) S in_w hK hP rfl 3 (by decide) fl_17 rfl rfl dX1_begin_52 ?_
          refine lv_iload_n hx hb dX1_begin_55 rfl (lv_at hl 1 rfl) ?_
          refine lv_iconst (v := nI 0) hx hb dX1_begin_56 (by decide) ?_
          refine w_iast hx hb hK hP (wD_of hq rfl) hS 2 0 rfl rfl (j := k) (x := nI 0) (by omega) (by decide) dX1_begin_57 (fun H locs hP _ hS => ?_)
          have hP : va_P D cls2 (mW q cI cD th (nI n) rC hh (upd (zrO k fi) k (nI 0)) (upd (zrO k fo) k (nI 0)) (bgR 36 fw) fe fr ff fp fl fc) H := hP
          refine lv_iinc (v := nI (k + 1)) (lv' := [(1, .int (nI (k + 1))), (0, .ref (q 0))]) hx hb dX1_begin_58 hl (k := 1) rfl (by rw [show Int32.ofInt 1 = nI 1 from by decide, nI_add]) (by decide) rfl (fun ls hl => ?_)
          refine lv_goto (tgt := 38) hx hb dX1_begin_61 (by decide) ?_
          have eq_6 : zrO (k + 1) fi = upd (zrO k fi) k (nI 0) := by rfl
          rw [← eq_6] at hP
          have eq_7 : zrO (k + 1) fo = upd (zrO k fo) k (nI 0) := by rfl
          rw [← eq_7] at hP
          exact ih (k + 1) (by omega) _ _ hP hS ls (lv_sub hl [1, 0] rfl)
      exact lp38 (6 - 0) 0 (by omega) _ _ hP hS ls (lv_sub hl [1, 0] rfl)
    | succ j ih =>
      intro k hk_k H locs hP hS ls hl
      have hlt_k : k < 36 := by omega
      refine lv_iload_n hx hb dX1_begin_2 rfl (lv_at hl 1 rfl) ?_
      refine lv_bipush (v := nI 36) hx hb dX1_begin_3 (by decide) ?_
      refine lv_icmp_ge (tgt := 36) hx hb dX1_begin_5 (by decide) (fun h5_0 => absurd h5_0 (nI_ge hlt_k (by omega))) (fun h5_0 => ?_)
      refine lv_aload_n hx hb dX1_begin_8 rfl (lv_at hl 0 rfl) ?_
      refine w_getM (own := RX1) (v := .ref (q 3)) S in_w hK hP rfl 4 (by decide) fl_20 rfl rfl dX1_begin_9 ?_
      refine lv_iload_n hx hb dX1_begin_12 rfl (lv_at hl 1 rfl) ?_
      refine lv_iload_n hx hb dX1_begin_13 rfl (lv_at hl 1 rfl) ?_
      refine lv_bipush (v := nI 6) hx hb dX1_begin_14 (by decide) ?_
      refine lv_idiv hx hb dX1_begin_16 (by decide) ?_
      refine lv_iload_n hx hb dX1_begin_17 rfl (lv_at hl 1 rfl) ?_
      refine lv_bipush (v := nI 6) hx hb dX1_begin_18 (by decide) ?_
      refine lv_irem hx hb dX1_begin_20 (by decide) ?_
      refine lv_icmp_ne (tgt := 28) hx hb dX1_begin_21 (by decide) (fun h21_1 => ?_) (fun h21_1 => ?_)
      · refine lv_iconst (v := nI 1) hx hb dX1_begin_28 (by decide) ?_
        refine w_iast hx hb hK hP (wD_of hq rfl) hS 3 0 rfl rfl (j := k) (x := nI 1) (by omega) (by decide) dX1_begin_29 (fun H locs hP _ hS => ?_)
        have hP : va_P D cls2 (mW q cI cD th (nI n) rC hh fi fo (upd (bgR k fw) k (nI 1)) fe fr ff fp fl fc) H := hP
        refine lv_iinc (v := nI (k + 1)) (lv' := [(1, .int (nI (k + 1))), (0, .ref (q 0))]) hx hb dX1_begin_30 hl (k := 1) rfl (by rw [show Int32.ofInt 1 = nI 1 from by decide, nI_add]) (by decide) rfl (fun ls hl => ?_)
        refine lv_goto (tgt := 2) hx hb dX1_begin_33 (by decide) ?_
        have eq_9 : bgR (k + 1) fw = upd (bgR k fw) k (nI 1) := by (show upd (bgR k fw) k (dgR k) = _; unfold dgR; first | rw [if_pos h21_1] | rw [if_neg h21_1])
        rw [← eq_9] at hP
        exact ih (k + 1) (by omega) _ _ hP hS ls (lv_sub hl [1, 0] rfl)
      · refine lv_iconst (v := nI 0) hx hb dX1_begin_24 (by decide) ?_
        refine lv_goto (tgt := 29) hx hb dX1_begin_25 (by decide) ?_
        refine w_iast hx hb hK hP (wD_of hq rfl) hS 3 0 rfl rfl (j := k) (x := nI 0) (by omega) (by decide) dX1_begin_29 (fun H locs hP _ hS => ?_)
        have hP : va_P D cls2 (mW q cI cD th (nI n) rC hh fi fo (upd (bgR k fw) k (nI 0)) fe fr ff fp fl fc) H := hP
        refine lv_iinc (v := nI (k + 1)) (lv' := [(1, .int (nI (k + 1))), (0, .ref (q 0))]) hx hb dX1_begin_30 hl (k := 1) rfl (by rw [show Int32.ofInt 1 = nI 1 from by decide, nI_add]) (by decide) rfl (fun ls hl => ?_)
        refine lv_goto (tgt := 2) hx hb dX1_begin_33 (by decide) ?_
        have eq_11 : bgR (k + 1) fw = upd (bgR k fw) k (nI 0) := by (show upd (bgR k fw) k (dgR k) = _; unfold dgR; first | rw [if_pos h21_1] | rw [if_neg h21_1])
        rw [← eq_11] at hP
        exact ih (k + 1) (by omega) _ _ hP hS ls (lv_sub hl [1, 0] rfl)
  exact lp2 (36 - 0) 0 (by omega) _ _ hP hS ls (lv_sub hl [1, 0] rfl)
