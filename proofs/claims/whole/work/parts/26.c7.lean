abbrev rX0_requireArm : Room := { frames := 0, cells := 0, slots := 0, locals := 0 }
theorem hdX0_requireArm : yX0_requireArm.cls = RX0 ∧ yX0_requireArm.cls ≠ "java/lang/invoke/MethodHandle" ∧ yX0_requireArm.cls ≠ "java/lang/invoke/VarHandle" ∧ (parseMethodDescriptor yX0_requireArm.desc).map (fun d => d.parameters.length) = some 1 := by decide +kernel
set_option maxHeartbeats 4000000 in
set_option maxRecDepth 100000 in
theorem c_X0_requireArm {l : Launch} {D : va_G} {q : Nat → Nat} {cI cD : ClassId} {rC : Int32} {fi fo fw : Nat → Int32} {fe : Nat → UInt64} {ft fr fp fl : Nat → Int32} {ff : Nat → UInt64} {n : Nat} (hn : 3 ≤ n ∧ n ≤ 6) {i : Nat} (hi : i < n) : Met l yX0_requireArm wsX0_requireArm rX0_requireArm (va_Pc [.ref (q 0), .int (nI i)] (wPre D (tys2 cI cD) (cW q cI cD (nI n) rC fi fo fw fe ft fr fp fl ff))) (va_Sv (fun _ => True)) 0 0 (fun _ => False) := by
  refine met_intro (cc := cX0_requireArm) (maxL := 2) (ret := none) (own := RX0) (by decide) rfl rfl (Nat.le_of_ble_eq_true rfl) ?_
  intro pp ee ss mm args below meth cd Q ls hQ S hr hlocks hv hB hl
  obtain ⟨hx, hb, hml, hown, hts⟩ := id S
  obtain ⟨hP, hK⟩ := hB
  have in_w : ∀ w ∈ wsX00, w ∈ wsX0_requireArm := by decide +kernel
  have fl_46 : Cond.fieldLink RX0 46 RX0 (TX0 9).2.1 (TX0 9).2.2.1 ∈ wsX0_requireArm := by decide +kernel
  have hl : lv_has ls 2 [(0, .ref (q 0)), (1, .int (nI i))] := hl
  refine lv_iload_n hx hb dX0_requireArm_0 rfl (lv_at hl 1 rfl) ?_
  refine lv_if_lt (tgt := 12) hx hb dX0_requireArm_1 (by decide) (fun h1_0 => absurd h1_0 (nI_pos (by omega))) (fun h1_0 => ?_)
  refine lv_iload_n hx hb dX0_requireArm_4 rfl (lv_at hl 1 rfl) ?_
  refine lv_aload_n hx hb dX0_requireArm_5 rfl (lv_at hl 0 rfl) ?_
  refine w_getC (own := RX0) (v := .int (nI n)) S in_w hK hP rfl 9 (by decide) fl_46 rfl rfl dX0_requireArm_6 ?_
  refine lv_icmp_lt (tgt := 22) hx hb dX0_requireArm_9 (by decide) (fun h9_1 => ?_) (fun h9_1 => absurd (nI_lt hi (by omega)) h9_1)
  subst hQ
  exact W.vret hx hb hr (fun t ht hWm => ⟨rfl, trivial, ht⟩) (fun q h => absurd h List.not_mem_nil) dX0_requireArm_22
abbrev rX0_requireWithin : Room := { frames := 0, cells := 0, slots := 0, locals := 0 }
theorem hdX0_requireWithin : yX0_requireWithin.cls ≠ "java/lang/invoke/MethodHandle" ∧ yX0_requireWithin.cls ≠ "java/lang/invoke/VarHandle" ∧ (parseMethodDescriptor yX0_requireWithin.desc).map (fun d => d.parameters.length) = some 3 := by decide +kernel
set_option maxHeartbeats 4000000 in
set_option maxRecDepth 100000 in
theorem c_X0_requireWithin {l : Launch} {v a b : Int32} (h1 : ¬ v < a) (h2 : v ≤ b) : Met l yX0_requireWithin wsX0_requireWithin rX0_requireWithin (va_Pc [.int v, .int a, .int b] (fun _ => True)) (va_Sv (fun _ => True)) 0 0 (fun _ => False) := by
  refine met_intro (cc := cX0_requireWithin) (maxL := 3) (ret := none) (own := RX0) (by decide) rfl rfl (Nat.le_of_ble_eq_true rfl) ?_
  intro pp ee ss mm args below meth cd Q ls hQ S hr hlocks hv hB hl
  obtain ⟨hx, hb, hml, hown, hts⟩ := id S
  have hl : lv_has ls 3 [(0, .int v), (1, .int a), (2, .int b)] := hl
  refine lv_iload_n hx hb dX0_requireWithin_0 rfl (lv_at hl 0 rfl) ?_
  refine lv_iload_n hx hb dX0_requireWithin_1 rfl (lv_at hl 1 rfl) ?_
  refine lv_icmp_lt (tgt := 10) hx hb dX0_requireWithin_2 (by decide) (fun h2_0 => absurd h2_0 h1) (fun h2_0 => ?_)
  refine lv_iload_n hx hb dX0_requireWithin_5 rfl (lv_at hl 0 rfl) ?_
  refine lv_iload_n hx hb dX0_requireWithin_6 rfl (lv_at hl 2 rfl) ?_
  refine lv_icmp_le (tgt := 20) hx hb dX0_requireWithin_7 (by decide) (fun h7_1 => ?_) (fun h7_1 => absurd h2 h7_1)
  subst hQ
  exact W.vret hx hb hr (fun t ht hWm => ⟨rfl, trivial, ht⟩) (fun q h => absurd h List.not_mem_nil) dX0_requireWithin_20
abbrev rX0_requireScalable : Room := { frames := 1, cells := 0, slots := 0, locals := 21 }
theorem hdX0_requireScalable : yX0_requireScalable.cls ≠ "java/lang/invoke/MethodHandle" ∧ yX0_requireScalable.cls ≠ "java/lang/invoke/VarHandle" ∧ (parseMethodDescriptor yX0_requireScalable.desc).map (fun d => d.parameters.length) = some 2 := by decide +kernel
set_option maxHeartbeats 4000000 in
set_option maxRecDepth 100000 in
theorem c_X0_requireScalable {l : Launch} {a b : Int32} (h1 : scl a b ≤ nI 9999) : Met l yX0_requireScalable wsX0_requireScalable rX0_requireScalable (va_Pc [.int a, .int b] (fun _ => True)) (va_Sv (fun _ => True)) 0 0 (fun _ => False) := by
  refine met_intro (cc := cX0_requireScalable) (maxL := 2) (ret := none) (own := RX0) (by decide) rfl rfl (Nat.le_of_ble_eq_true rfl) ?_
  intro pp ee ss mm args below meth cd Q ls hQ S hr hlocks hv hB hl
  obtain ⟨hx, hb, hml, hown, hts⟩ := id S
  have hl : lv_has ls 2 [(0, .int a), (1, .int b)] := hl
  refine lv_iload_n hx hb dX0_requireScalable_0 rfl (lv_at hl 0 rfl) ?_
  refine lv_iload_n hx hb dX0_requireScalable_1 rfl (lv_at hl 1 rfl) ?_
  refine vp_callSi (W.runS (As := [.int a, .int b]) (rest := []) S (c_X0_scaled (a := a) (b := b)) (va_cwS 2 hts gX0_requireScalable_X0_scaled rfl rfl rfl hdX0_scaled ⟨Nat.le_of_ble_eq_true rfl, Nat.le_of_ble_eq_true rfl⟩) preS rfl rfl hl.1 rfl (lv_room (Nat.le_of_ble_eq_true rfl)) dX0_requireScalable_2 ⟨Nat.zero_le _, Nat.zero_le _⟩) (fun r_1 er_1 => ?_)
  subst er_1
  refine lv_sipush (v := nI 9999) hx hb dX0_requireScalable_5 (by decide) ?_
  refine lv_icmp_le (tgt := 21) hx hb dX0_requireScalable_8 (by decide) (fun h8_0 => ?_) (fun h8_0 => absurd h1 h8_0)
  subst hQ
  exact W.vret hx hb hr (fun t ht hWm => ⟨rfl, trivial, ht⟩) (fun q h => absurd h List.not_mem_nil) dX0_requireScalable_21
abbrev rX0_setArms : Room := { frames := 3, cells := 0, slots := 0, locals := 67 }
theorem hdX0_setArms : yX0_setArms.cls = RX0 ∧ yX0_setArms.cls ≠ "java/lang/invoke/MethodHandle" ∧ yX0_setArms.cls ≠ "java/lang/invoke/VarHandle" ∧ (parseMethodDescriptor yX0_setArms.desc).map (fun d => d.parameters.length) = some 1 := by decide +kernel
set_option maxHeartbeats 4000000 in
set_option maxRecDepth 100000 in
theorem c_X0_setArms {l : Launch} {D : va_G} {q : Nat → Nat} {cI cD : ClassId} {rC : Int32} {fi fo fw : Nat → Int32} {fe : Nat → UInt64} {ft fr fp fl : Nat → Int32} {ff : Nat → UInt64} {n : Nat} {n0 : Nat} (hn : 3 ≤ n ∧ n ≤ 6) {T : Nat → Nat} (hT : ∀ j : Nat, j < 6 → ft j = nI (T j) ∧ T j < 64)  (hq : qD q) : Met l yX0_setArms wsX0_setArms rX0_setArms (va_Pc [.ref (q 0), .int (nI n)] (wPre D (tys2 cI cD) (cW q cI cD (nI n0) rC fi fo fw fe ft fr fp fl ff))) (va_Qi (fun r (u : (Nat → Int32) × (Nat → Int32) × (Nat → Int32) × (Nat → UInt64) × (Nat → Int32)) => r = nI n0 ∧ ag1 n u.1 (fun _ => nI 0) ∧ ag1 n u.2.1 (fun _ => nI 0) ∧ ag2 n u.2.2.1 w0 ∧ ag2 n u.2.2.2.1 (lay w0) ∧ ∃ T' : Nat → Nat, (∀ j : Nat, j < 6 → u.2.2.2.2 j = nI (T' j) ∧ T' j < 64) ∧ ∀ a b : Nat, a < n → b < n → (T' a).testBit b = decide (0 < w0 a b)) (fun u t => va_P D cls2 (cW q cI cD (nI n) (nI 0) u.1 u.2.1 u.2.2.1 u.2.2.2.1 u.2.2.2.2 fr fp fl ff) t.heap) (qA q)) 0 0 (qA q) := by
  refine met_intro (cc := cX0_setArms) (maxL := 3) (ret := (some .int)) (own := RX0) (by decide) rfl rfl (Nat.le_of_ble_eq_true rfl) ?_
  intro pp ee ss mm args below meth cd Q ls hQ S hr hlocks hv hB hl
  obtain ⟨hx, hb, hml, hown, hts⟩ := id S
  obtain ⟨hP, hK⟩ := hB
  have in_w : ∀ w ∈ wsX00, w ∈ wsX0_setArms := by decide +kernel
  have fl_46 : Cond.fieldLink RX0 46 RX0 (TX0 9).2.1 (TX0 9).2.2.1 ∈ wsX0_setArms := by decide +kernel
  have hS : va_S (qA q) ss.heap ss.heap [] := va_S.rf
  generalize hHg : ss.heap = H at hP
  have hS : va_S (qA q) ss.heap H [] := by rw [← hHg]; exact hS
  suffices hgo : ∀ locs : List Loc, va_S (qA q) ss.heap H locs → W pp l ee rX0_setArms ss mm args below meth cd H locs 0 0 Q (F0 mm 0 ls []) by
    first | exact hgo [] hS | (rw [hHg]; exact hgo [] hS)
  clear hS
  intro locs hS
  have hl : lv_has ls 3 [(0, .ref (q 0)), (1, .int (nI n))] := hl
  refine lv_iload_n hx hb dX0_setArms_0 rfl (lv_at hl 1 rfl) ?_
  refine lv_iconst (v := nI 3) hx hb dX0_setArms_1 (by decide) ?_
  refine lv_bipush (v := nI 6) hx hb dX0_setArms_2 (by decide) ?_
  refine va_csv (W.runS (As := [.int (nI n), .int (nI 3), .int (nI 6)]) (rest := []) S (c_X0_requireWithin (nI_nlt hn.1 (by omega)) (nI_le hn.2 (by decide))) (va_cwS 3 hts gX0_setArms_X0_requireWithin rfl rfl rfl hdX0_requireWithin ⟨Nat.le_of_ble_eq_true rfl, Nat.le_of_ble_eq_true rfl⟩) preS rfl rfl hl.1 rfl (lv_room (Nat.le_of_ble_eq_true rfl)) dX0_setArms_4 ⟨Nat.zero_le _, Nat.zero_le _⟩) (fun _ => ?_)
  refine lv_aload_n hx hb dX0_setArms_7 rfl (lv_at hl 0 rfl) ?_
  refine w_getC (own := RX0) (v := .int (nI n0)) S in_w hK hP rfl 9 (by decide) fl_46 rfl rfl dX0_setArms_8 ?_
  refine lv_istore_n (lv' := [(2, .int (nI n0)), (0, .ref (q 0)), (1, .int (nI n))]) hx hb dX0_setArms_11 rfl hl (by decide) rfl (fun ls hl => ?_)
  refine lv_aload_n hx hb dX0_setArms_12 rfl (lv_at hl 1 rfl) ?_
  refine lv_iload_n hx hb dX0_setArms_13 rfl (lv_at hl 2 rfl) ?_
  refine va_callv (va_runV (As := [.int (nI n)]) (rest := []) S (c_X0_beginJunction (n0 := n0) hn hT hq) (cwV 1 hts gX0_setArms_X0_beginJunction rfl rfl rfl hdX0_beginJunction ⟨Nat.le_of_ble_eq_true rfl, Nat.le_of_ble_eq_true rfl⟩) (preV hK hP rfl rfl) rfl rfl hl.1 rfl (lv_room (Nat.le_of_ble_eq_true rfl)) dX0_setArms_14 ⟨Nat.zero_le _, Nat.zero_le _⟩) hS (fun _ _ h => h) (fun _ h => h) (fun u_2 t H locs ht hvm hw_3 hB hz1 hk1 hS => ?_)
  replace hB : va_P D cls2 _ t.heap := hB
  rw [ht] at hB
  have hP : va_P D cls2 (cW q cI cD (nI n) (nI 0) u_2.1 u_2.2.1 u_2.2.2.1 u_2.2.2.2.1 u_2.2.2.2.2 fr fp fl ff) H := hB
  refine lv_iload_n hx hb dX0_setArms_17 rfl (lv_at hl 0 rfl) ?_
  subst hQ
  exact W.iret hx hb hr (fun t ht hWm => ⟨⟨_, u_2, rfl, ⟨rfl, hw_3⟩, (show va_P D cls2 _ t.heap from by rw [ht]; exact hP)⟩, hS.F ht⟩) hS.2.2 dX0_setArms_18
abbrev rX0_setCount : Room := { frames := 2, cells := 0, slots := 0, locals := 43 }
theorem hdX0_setCount : yX0_setCount.cls = RX0 ∧ yX0_setCount.cls ≠ "java/lang/invoke/MethodHandle" ∧ yX0_setCount.cls ≠ "java/lang/invoke/VarHandle" ∧ (parseMethodDescriptor yX0_setCount.desc).map (fun d => d.parameters.length) = some 3 := by decide +kernel
set_option maxHeartbeats 4000000 in
set_option maxRecDepth 100000 in
theorem c_X0_setCountI {l : Launch} {D : va_G} {q : Nat → Nat} {cI cD : ClassId} {rC : Int32} {fi fo fw : Nat → Int32} {fe : Nat → UInt64} {ft fr fp fl : Nat → Int32} {ff : Nat → UInt64} {n : Nat} (hn : 3 ≤ n ∧ n ≤ 6) {inf : Nat → Int32} (hI : ag1 n fi inf) {w : Nat → Nat → Int32} (hW : ag2 n fw w) {i : Nat} {x : Int32} (hi : i < n) (hx1 : ¬ x < nI 0) (hx2 : x ≤ nI 9999) (hq : qD q) : Met l yX0_setCount wsX0_setCount rX0_setCount (va_Pc [.ref (q 0), .ref (q 1), .int (nI i), .int x] (wPre D (tys2 cI cD) (cW q cI cD (nI n) rC fi fo fw fe ft fr fp fl ff))) (va_Qi (fun r (u : (Nat → Int32) × (Nat → UInt64)) => r = inf i ∧ ag1 n u.1 (upd inf i x) ∧ ag2 n u.2 (lay w)) (fun u t => va_P D cls2 (cW q cI cD (nI n) (nI 0) u.1 fo fw u.2 ft fr fp fl ff) t.heap) (qA q)) 0 0 (qA q) := by
  refine met_intro (cc := cX0_setCount) (maxL := 5) (ret := (some .int)) (own := RX0) (by decide) rfl rfl (Nat.le_of_ble_eq_true rfl) ?_
  intro pp ee ss mm args below meth cd Q ls hQ S hr hlocks hv hB hl
  obtain ⟨hx, hb, hml, hown, hts⟩ := id S
  obtain ⟨hP, hK⟩ := hB
  have hS : va_S (qA q) ss.heap ss.heap [] := va_S.rf
  generalize hHg : ss.heap = H at hP
  have hS : va_S (qA q) ss.heap H [] := by rw [← hHg]; exact hS
  suffices hgo : ∀ locs : List Loc, va_S (qA q) ss.heap H locs → W pp l ee rX0_setCount ss mm args below meth cd H locs 0 0 Q (F0 mm 0 ls []) by
    first | exact hgo [] hS | (rw [hHg]; exact hgo [] hS)
  clear hS
  intro locs hS
  have hl : lv_has ls 5 [(0, .ref (q 0)), (1, .ref (q 1)), (2, .int (nI i)), (3, .int x)] := hl
  refine lv_aload_n hx hb dX0_setCount_0 rfl (lv_at hl 0 rfl) ?_
  refine lv_iload_n hx hb dX0_setCount_1 rfl (lv_at hl 2 rfl) ?_
  refine va_csv (W.runV (As := [.int (nI i)]) (rest := []) S (c_X0_requireArm hn (i := i) (by omega)) (cwV 1 hts gX0_setCount_X0_requireArm rfl rfl rfl hdX0_requireArm ⟨Nat.le_of_ble_eq_true rfl, Nat.le_of_ble_eq_true rfl⟩) (preV hK hP rfl rfl) rfl rfl hl.1 rfl (lv_room (Nat.le_of_ble_eq_true rfl)) dX0_setCount_2 ⟨Nat.zero_le _, Nat.zero_le _⟩) (fun _ => ?_)
  refine lv_iload_n hx hb dX0_setCount_5 rfl (lv_at hl 3 rfl) ?_
  refine lv_iconst (v := nI 0) hx hb dX0_setCount_6 (by decide) ?_
  refine lv_sipush (v := nI 9999) hx hb dX0_setCount_7 (by decide) ?_
  refine va_csv (W.runS (As := [.int x, .int (nI 0), .int (nI 9999)]) (rest := []) S (c_X0_requireWithin hx1 hx2) (va_cwS 3 hts gX0_setCount_X0_requireWithin rfl rfl rfl hdX0_requireWithin ⟨Nat.le_of_ble_eq_true rfl, Nat.le_of_ble_eq_true rfl⟩) preS rfl rfl hl.1 rfl (lv_room (Nat.le_of_ble_eq_true rfl)) dX0_setCount_10 ⟨Nat.zero_le _, Nat.zero_le _⟩) (fun _ => ?_)
  refine lv_aload_n hx hb dX0_setCount_13 rfl (lv_at hl 1 rfl) ?_
  refine lv_iload_n hx hb dX0_setCount_14 rfl (lv_at hl 2 rfl) ?_
  refine w_iald hx hb hK hP 1 0 rfl rfl (j := i) (v := inf i) (hI i (by omega)) (by omega) (by decide) dX0_setCount_15 ?_
  refine lv_istore (lv' := [(4, .int (inf i)), (0, .ref (q 0)), (1, .ref (q 1)), (2, .int (nI i)), (3, .int x)]) hx hb dX0_setCount_16 hl (by decide) rfl (fun ls hl => ?_)
  refine lv_aload_n hx hb dX0_setCount_18 rfl (lv_at hl 2 rfl) ?_
  refine lv_iload_n hx hb dX0_setCount_19 rfl (lv_at hl 3 rfl) ?_
  refine lv_iload_n hx hb dX0_setCount_20 rfl (lv_at hl 4 rfl) ?_
  refine w_iast hx hb hK hP (wD_of hq rfl) hS 1 0 rfl rfl (j := i) (x := x) (by omega) (by decide) dX0_setCount_21 (fun H locs hP _ hS => ?_)
  have hP : va_P D cls2 (cW q cI cD (nI n) rC (upd fi i x) fo fw fe ft fr fp fl ff) H := hP
  have g_2 : ag1 n (upd fi i x) (upd inf i x) := (ag1_upd hI i x)
  generalize (upd fi i x) = a_1 at hP g_2
  refine lv_aload_n hx hb dX0_setCount_22 rfl (lv_at hl 1 rfl) ?_
  refine va_callv (va_runV (As := []) (rest := []) S (c_X0_resetEstimate hn hW hq) (cwV 0 hts gX0_setCount_X0_resetEstimate rfl rfl rfl hdX0_resetEstimate ⟨Nat.le_of_ble_eq_true rfl, Nat.le_of_ble_eq_true rfl⟩) (preV hK hP rfl rfl) rfl rfl hl.1 rfl (lv_room (Nat.le_of_ble_eq_true rfl)) dX0_setCount_23 ⟨Nat.zero_le _, Nat.zero_le _⟩) hS (fun _ _ h => h) (fun _ h => h) (fun u_4 t H locs ht hvm hw_5 hB hz1 hk1 hS => ?_)
  replace hB : va_P D cls2 _ t.heap := hB
  rw [ht] at hB
  have hP : va_P D cls2 (cW q cI cD (nI n) (nI 0) a_1 fo fw u_4 ft fr fp fl ff) H := hB
  refine lv_iload hx hb dX0_setCount_26 (lv_at hl 0 rfl) ?_
  subst hQ
  exact W.iret hx hb hr (fun t ht hWm => ⟨⟨_, (a_1, u_4), rfl, ⟨rfl, g_2, hw_5⟩, (show va_P D cls2 _ t.heap from by rw [ht]; exact hP)⟩, hS.F ht⟩) hS.2.2 dX0_setCount_28
set_option maxHeartbeats 4000000 in
set_option maxRecDepth 100000 in
theorem c_X0_setCountO {l : Launch} {D : va_G} {q : Nat → Nat} {cI cD : ClassId} {rC : Int32} {fi fo fw : Nat → Int32} {fe : Nat → UInt64} {ft fr fp fl : Nat → Int32} {ff : Nat → UInt64} {n : Nat} (hn : 3 ≤ n ∧ n ≤ 6) {out : Nat → Int32} (hO : ag1 n fo out) {w : Nat → Nat → Int32} (hW : ag2 n fw w) {i : Nat} {x : Int32} (hi : i < n) (hx1 : ¬ x < nI 0) (hx2 : x ≤ nI 9999) (hq : qD q) : Met l yX0_setCount wsX0_setCount rX0_setCount (va_Pc [.ref (q 0), .ref (q 2), .int (nI i), .int x] (wPre D (tys2 cI cD) (cW q cI cD (nI n) rC fi fo fw fe ft fr fp fl ff))) (va_Qi (fun r (u : (Nat → Int32) × (Nat → UInt64)) => r = out i ∧ ag1 n u.1 (upd out i x) ∧ ag2 n u.2 (lay w)) (fun u t => va_P D cls2 (cW q cI cD (nI n) (nI 0) fi u.1 fw u.2 ft fr fp fl ff) t.heap) (qA q)) 0 0 (qA q) := by
  refine met_intro (cc := cX0_setCount) (maxL := 5) (ret := (some .int)) (own := RX0) (by decide) rfl rfl (Nat.le_of_ble_eq_true rfl) ?_
  intro pp ee ss mm args below meth cd Q ls hQ S hr hlocks hv hB hl
  obtain ⟨hx, hb, hml, hown, hts⟩ := id S
  obtain ⟨hP, hK⟩ := hB
  have hS : va_S (qA q) ss.heap ss.heap [] := va_S.rf
  generalize hHg : ss.heap = H at hP
  have hS : va_S (qA q) ss.heap H [] := by rw [← hHg]; exact hS
  suffices hgo : ∀ locs : List Loc, va_S (qA q) ss.heap H locs → W pp l ee rX0_setCount ss mm args below meth cd H locs 0 0 Q (F0 mm 0 ls []) by
    first | exact hgo [] hS | (rw [hHg]; exact hgo [] hS)
  clear hS
  intro locs hS
  have hl : lv_has ls 5 [(0, .ref (q 0)), (1, .ref (q 2)), (2, .int (nI i)), (3, .int x)] := hl
  refine lv_aload_n hx hb dX0_setCount_0 rfl (lv_at hl 0 rfl) ?_
  refine lv_iload_n hx hb dX0_setCount_1 rfl (lv_at hl 2 rfl) ?_
  refine va_csv (W.runV (As := [.int (nI i)]) (rest := []) S (c_X0_requireArm hn (i := i) (by omega)) (cwV 1 hts gX0_setCount_X0_requireArm rfl rfl rfl hdX0_requireArm ⟨Nat.le_of_ble_eq_true rfl, Nat.le_of_ble_eq_true rfl⟩) (preV hK hP rfl rfl) rfl rfl hl.1 rfl (lv_room (Nat.le_of_ble_eq_true rfl)) dX0_setCount_2 ⟨Nat.zero_le _, Nat.zero_le _⟩) (fun _ => ?_)
  refine lv_iload_n hx hb dX0_setCount_5 rfl (lv_at hl 3 rfl) ?_
  refine lv_iconst (v := nI 0) hx hb dX0_setCount_6 (by decide) ?_
  refine lv_sipush (v := nI 9999) hx hb dX0_setCount_7 (by decide) ?_
  refine va_csv (W.runS (As := [.int x, .int (nI 0), .int (nI 9999)]) (rest := []) S (c_X0_requireWithin hx1 hx2) (va_cwS 3 hts gX0_setCount_X0_requireWithin rfl rfl rfl hdX0_requireWithin ⟨Nat.le_of_ble_eq_true rfl, Nat.le_of_ble_eq_true rfl⟩) preS rfl rfl hl.1 rfl (lv_room (Nat.le_of_ble_eq_true rfl)) dX0_setCount_10 ⟨Nat.zero_le _, Nat.zero_le _⟩) (fun _ => ?_)
  refine lv_aload_n hx hb dX0_setCount_13 rfl (lv_at hl 1 rfl) ?_
  refine lv_iload_n hx hb dX0_setCount_14 rfl (lv_at hl 2 rfl) ?_
  refine w_iald hx hb hK hP 2 0 rfl rfl (j := i) (v := out i) (hO i (by omega)) (by omega) (by decide) dX0_setCount_15 ?_
  refine lv_istore (lv' := [(4, .int (out i)), (0, .ref (q 0)), (1, .ref (q 2)), (2, .int (nI i)), (3, .int x)]) hx hb dX0_setCount_16 hl (by decide) rfl (fun ls hl => ?_)
  refine lv_aload_n hx hb dX0_setCount_18 rfl (lv_at hl 2 rfl) ?_
  refine lv_iload_n hx hb dX0_setCount_19 rfl (lv_at hl 3 rfl) ?_
  refine lv_iload_n hx hb dX0_setCount_20 rfl (lv_at hl 4 rfl) ?_
  refine w_iast hx hb hK hP (wD_of hq rfl) hS 2 0 rfl rfl (j := i) (x := x) (by omega) (by decide) dX0_setCount_21 (fun H locs hP _ hS => ?_)
  have hP : va_P D cls2 (cW q cI cD (nI n) rC fi (upd fo i x) fw fe ft fr fp fl ff) H := hP
  have g_2 : ag1 n (upd fo i x) (upd out i x) := (ag1_upd hO i x)
  generalize (upd fo i x) = a_1 at hP g_2
  refine lv_aload_n hx hb dX0_setCount_22 rfl (lv_at hl 1 rfl) ?_
  refine va_callv (va_runV (As := []) (rest := []) S (c_X0_resetEstimate hn hW hq) (cwV 0 hts gX0_setCount_X0_resetEstimate rfl rfl rfl hdX0_resetEstimate ⟨Nat.le_of_ble_eq_true rfl, Nat.le_of_ble_eq_true rfl⟩) (preV hK hP rfl rfl) rfl rfl hl.1 rfl (lv_room (Nat.le_of_ble_eq_true rfl)) dX0_setCount_23 ⟨Nat.zero_le _, Nat.zero_le _⟩) hS (fun _ _ h => h) (fun _ h => h) (fun u_4 t H locs ht hvm hw_5 hB hz1 hk1 hS => ?_)
  replace hB : va_P D cls2 _ t.heap := hB
  rw [ht] at hB
  have hP : va_P D cls2 (cW q cI cD (nI n) (nI 0) fi a_1 fw u_4 ft fr fp fl ff) H := hB
  refine lv_iload hx hb dX0_setCount_26 (lv_at hl 0 rfl) ?_
  subst hQ
  exact W.iret hx hb hr (fun t ht hWm => ⟨⟨_, (a_1, u_4), rfl, ⟨rfl, g_2, hw_5⟩, (show va_P D cls2 _ t.heap from by rw [ht]; exact hP)⟩, hS.F ht⟩) hS.2.2 dX0_setCount_28
abbrev rX0_setInflow : Room := { frames := 3, cells := 0, slots := 0, locals := 67 }
theorem hdX0_setInflow : yX0_setInflow.cls = RX0 ∧ yX0_setInflow.cls ≠ "java/lang/invoke/MethodHandle" ∧ yX0_setInflow.cls ≠ "java/lang/invoke/VarHandle" ∧ (parseMethodDescriptor yX0_setInflow.desc).map (fun d => d.parameters.length) = some 2 := by decide +kernel
set_option maxHeartbeats 4000000 in
set_option maxRecDepth 100000 in
theorem c_X0_setInflow {l : Launch} {D : va_G} {q : Nat → Nat} {cI cD : ClassId} {rC : Int32} {fi fo fw : Nat → Int32} {fe : Nat → UInt64} {ft fr fp fl : Nat → Int32} {ff : Nat → UInt64} {n : Nat} (hn : 3 ≤ n ∧ n ≤ 6) {inf : Nat → Int32} (hI : ag1 n fi inf) {w : Nat → Nat → Int32} (hW : ag2 n fw w) {i : Nat} {x : Int32} (hi : i < n) (hx1 : ¬ x < nI 0) (hx2 : x ≤ nI 9999) (hq : qD q) : Met l yX0_setInflow wsX0_setInflow rX0_setInflow (va_Pc [.ref (q 0), .int (nI i), .int x] (wPre D (tys2 cI cD) (cW q cI cD (nI n) rC fi fo fw fe ft fr fp fl ff))) (va_Qi (fun r (u : (Nat → Int32) × (Nat → UInt64)) => r = inf i ∧ ag1 n u.1 (upd inf i x) ∧ ag2 n u.2 (lay w)) (fun u t => va_P D cls2 (cW q cI cD (nI n) (nI 0) u.1 fo fw u.2 ft fr fp fl ff) t.heap) (qA q)) 0 0 (qA q) := by
  refine met_intro (cc := cX0_setInflow) (maxL := 3) (ret := (some .int)) (own := RX0) (by decide) rfl rfl (Nat.le_of_ble_eq_true rfl) ?_
  intro pp ee ss mm args below meth cd Q ls hQ S hr hlocks hv hB hl
  obtain ⟨hx, hb, hml, hown, hts⟩ := id S
  obtain ⟨hP, hK⟩ := hB
  have in_w : ∀ w ∈ wsX00, w ∈ wsX0_setInflow := by decide +kernel
  have fl_9 : Cond.fieldLink RX0 9 RX0 (TX0 0).2.1 (TX0 0).2.2.1 ∈ wsX0_setInflow := by decide +kernel
  have hS : va_S (qA q) ss.heap ss.heap [] := va_S.rf
  generalize hHg : ss.heap = H at hP
  have hS : va_S (qA q) ss.heap H [] := by rw [← hHg]; exact hS
  suffices hgo : ∀ locs : List Loc, va_S (qA q) ss.heap H locs → W pp l ee rX0_setInflow ss mm args below meth cd H locs 0 0 Q (F0 mm 0 ls []) by
    first | exact hgo [] hS | (rw [hHg]; exact hgo [] hS)
  clear hS
  intro locs hS
  have hl : lv_has ls 3 [(0, .ref (q 0)), (1, .int (nI i)), (2, .int x)] := hl
  refine lv_aload_n hx hb dX0_setInflow_0 rfl (lv_at hl 0 rfl) ?_
  refine lv_aload_n hx hb dX0_setInflow_1 rfl (lv_at hl 0 rfl) ?_
  refine w_getC (own := RX0) (v := .ref (q 1)) S in_w hK hP rfl 0 (by decide) fl_9 rfl rfl dX0_setInflow_2 ?_
  refine lv_iload_n hx hb dX0_setInflow_5 rfl (lv_at hl 1 rfl) ?_
  refine lv_iload_n hx hb dX0_setInflow_6 rfl (lv_at hl 2 rfl) ?_
  refine va_calli (va_runV (As := [.ref (q 1), .int (nI i), .int x]) (rest := []) S (c_X0_setCountI hn hI hW (i := i) (x := x) (by omega) hx1 hx2 hq) (cwV 3 hts gX0_setInflow_X0_setCount rfl rfl rfl hdX0_setCount ⟨Nat.le_of_ble_eq_true rfl, Nat.le_of_ble_eq_true rfl⟩) (preV hK hP rfl rfl) rfl rfl hl.1 rfl (lv_room (Nat.le_of_ble_eq_true rfl)) dX0_setInflow_7 ⟨Nat.zero_le _, Nat.zero_le _⟩) hS (fun _ _ h => h) (fun _ h => h) (fun r_1 u_2 t H locs ht hvm hw_3 hB hz1 hk1 hS => ?_)
  replace hB : va_P D cls2 _ t.heap := hB
  rw [ht] at hB
  have hP : va_P D cls2 (cW q cI cD (nI n) (nI 0) u_2.1 fo fw u_2.2 ft fr fp fl ff) H := hB
  subst hQ
  exact W.iret hx hb hr (fun t ht hWm => ⟨⟨_, (u_2.1, u_2.2), rfl, ⟨hw_3.1, hw_3.2.1, hw_3.2.2⟩, (show va_P D cls2 _ t.heap from by rw [ht]; exact hP)⟩, hS.F ht⟩) hS.2.2 dX0_setInflow_10
abbrev rX0_setOutflow : Room := { frames := 3, cells := 0, slots := 0, locals := 67 }
theorem hdX0_setOutflow : yX0_setOutflow.cls = RX0 ∧ yX0_setOutflow.cls ≠ "java/lang/invoke/MethodHandle" ∧ yX0_setOutflow.cls ≠ "java/lang/invoke/VarHandle" ∧ (parseMethodDescriptor yX0_setOutflow.desc).map (fun d => d.parameters.length) = some 2 := by decide +kernel
set_option maxHeartbeats 4000000 in
set_option maxRecDepth 100000 in
theorem c_X0_setOutflow {l : Launch} {D : va_G} {q : Nat → Nat} {cI cD : ClassId} {rC : Int32} {fi fo fw : Nat → Int32} {fe : Nat → UInt64} {ft fr fp fl : Nat → Int32} {ff : Nat → UInt64} {n : Nat} (hn : 3 ≤ n ∧ n ≤ 6) {out : Nat → Int32} (hO : ag1 n fo out) {w : Nat → Nat → Int32} (hW : ag2 n fw w) {i : Nat} {x : Int32} (hi : i < n) (hx1 : ¬ x < nI 0) (hx2 : x ≤ nI 9999) (hq : qD q) : Met l yX0_setOutflow wsX0_setOutflow rX0_setOutflow (va_Pc [.ref (q 0), .int (nI i), .int x] (wPre D (tys2 cI cD) (cW q cI cD (nI n) rC fi fo fw fe ft fr fp fl ff))) (va_Qi (fun r (u : (Nat → Int32) × (Nat → UInt64)) => r = out i ∧ ag1 n u.1 (upd out i x) ∧ ag2 n u.2 (lay w)) (fun u t => va_P D cls2 (cW q cI cD (nI n) (nI 0) fi u.1 fw u.2 ft fr fp fl ff) t.heap) (qA q)) 0 0 (qA q) := by
  refine met_intro (cc := cX0_setOutflow) (maxL := 3) (ret := (some .int)) (own := RX0) (by decide) rfl rfl (Nat.le_of_ble_eq_true rfl) ?_
  intro pp ee ss mm args below meth cd Q ls hQ S hr hlocks hv hB hl
  obtain ⟨hx, hb, hml, hown, hts⟩ := id S
  obtain ⟨hP, hK⟩ := hB
  have in_w : ∀ w ∈ wsX00, w ∈ wsX0_setOutflow := by decide +kernel
  have fl_13 : Cond.fieldLink RX0 13 RX0 (TX0 1).2.1 (TX0 1).2.2.1 ∈ wsX0_setOutflow := by decide +kernel
  have hS : va_S (qA q) ss.heap ss.heap [] := va_S.rf
  generalize hHg : ss.heap = H at hP
  have hS : va_S (qA q) ss.heap H [] := by rw [← hHg]; exact hS
  suffices hgo : ∀ locs : List Loc, va_S (qA q) ss.heap H locs → W pp l ee rX0_setOutflow ss mm args below meth cd H locs 0 0 Q (F0 mm 0 ls []) by
    first | exact hgo [] hS | (rw [hHg]; exact hgo [] hS)
  clear hS
  intro locs hS
  have hl : lv_has ls 3 [(0, .ref (q 0)), (1, .int (nI i)), (2, .int x)] := hl
  refine lv_aload_n hx hb dX0_setOutflow_0 rfl (lv_at hl 0 rfl) ?_
  refine lv_aload_n hx hb dX0_setOutflow_1 rfl (lv_at hl 0 rfl) ?_
  refine w_getC (own := RX0) (v := .ref (q 2)) S in_w hK hP rfl 1 (by decide) fl_13 rfl rfl dX0_setOutflow_2 ?_
  refine lv_iload_n hx hb dX0_setOutflow_5 rfl (lv_at hl 1 rfl) ?_
  refine lv_iload_n hx hb dX0_setOutflow_6 rfl (lv_at hl 2 rfl) ?_
  refine va_calli (va_runV (As := [.ref (q 2), .int (nI i), .int x]) (rest := []) S (c_X0_setCountO hn hO hW (i := i) (x := x) (by omega) hx1 hx2 hq) (cwV 3 hts gX0_setOutflow_X0_setCount rfl rfl rfl hdX0_setCount ⟨Nat.le_of_ble_eq_true rfl, Nat.le_of_ble_eq_true rfl⟩) (preV hK hP rfl rfl) rfl rfl hl.1 rfl (lv_room (Nat.le_of_ble_eq_true rfl)) dX0_setOutflow_7 ⟨Nat.zero_le _, Nat.zero_le _⟩) hS (fun _ _ h => h) (fun _ h => h) (fun r_1 u_2 t H locs ht hvm hw_3 hB hz1 hk1 hS => ?_)
  replace hB : va_P D cls2 _ t.heap := hB
  rw [ht] at hB
  have hP : va_P D cls2 (cW q cI cD (nI n) (nI 0) fi u_2.1 fw u_2.2 ft fr fp fl ff) H := hB
  subst hQ
  exact W.iret hx hb hr (fun t ht hWm => ⟨⟨_, (u_2.1, u_2.2), rfl, ⟨hw_3.1, hw_3.2.1, hw_3.2.2⟩, (show va_P D cls2 _ t.heap from by rw [ht]; exact hP)⟩, hS.F ht⟩) hS.2.2 dX0_setOutflow_10
abbrev rX0_setWeight : Room := { frames := 2, cells := 0, slots := 0, locals := 44 }
theorem hdX0_setWeight : yX0_setWeight.cls = RX0 ∧ yX0_setWeight.cls ≠ "java/lang/invoke/MethodHandle" ∧ yX0_setWeight.cls ≠ "java/lang/invoke/VarHandle" ∧ (parseMethodDescriptor yX0_setWeight.desc).map (fun d => d.parameters.length) = some 3 := by decide +kernel
set_option maxHeartbeats 4000000 in
set_option maxRecDepth 100000 in
theorem c_X0_setWeight {l : Launch} {D : va_G} {q : Nat → Nat} {cI cD : ClassId} {rC : Int32} {fi fo fw : Nat → Int32} {fe : Nat → UInt64} {ft fr fp fl : Nat → Int32} {ff : Nat → UInt64} {n : Nat} (hn : 3 ≤ n ∧ n ≤ 6) {w : Nat → Nat → Int32} (hW : ag2 n fw w) {T : Nat → Nat} (hT : ∀ j : Nat, j < 6 → ft j = nI (T j) ∧ T j < 64) {i k : Nat} {x : Int32} (hi : i < n) (hk : k < n) (hx1 : ¬ x < nI 0) (hx2 : x ≤ nI 99) (hq : qD q) : Met l yX0_setWeight wsX0_setWeight rX0_setWeight (va_Pc [.ref (q 0), .int (nI i), .int (nI k), .int x] (wPre D (tys2 cI cD) (cW q cI cD (nI n) rC fi fo fw fe ft fr fp fl ff))) (va_Qi (fun r (u : (Nat → Int32) × (Nat → UInt64) × (Nat → Int32)) => r = w i k ∧ ag2 n u.1 (upd2 w i k x) ∧ ag2 n u.2.1 (lay (upd2 w i k x)) ∧ ∃ T' : Nat → Nat, (∀ j : Nat, j < 6 → u.2.2 j = nI (T' j) ∧ T' j < 64) ∧ ∀ a b : Nat, b < 6 → (T' a).testBit b = if a = i ∧ b = k then decide (0 < x) else (T a).testBit b) (fun u t => va_P D cls2 (cW q cI cD (nI n) (nI 0) fi fo u.1 u.2.1 u.2.2 fr fp fl ff) t.heap) (qA q)) 0 0 (qA q) := by
  refine met_intro (cc := cX0_setWeight) (maxL := 5) (ret := (some .int)) (own := RX0) (by decide) rfl rfl (Nat.le_of_ble_eq_true rfl) ?_
  intro pp ee ss mm args below meth cd Q ls hQ S hr hlocks hv hB hl
  obtain ⟨hx, hb, hml, hown, hts⟩ := id S
  obtain ⟨hP, hK⟩ := hB
  have in_w : ∀ w ∈ wsX00, w ∈ wsX0_setWeight := by decide +kernel
  have fl_16 : Cond.fieldLink RX0 16 RX0 (TX0 2).2.1 (TX0 2).2.2.1 ∈ wsX0_setWeight := by decide +kernel
  have hS : va_S (qA q) ss.heap ss.heap [] := va_S.rf
  generalize hHg : ss.heap = H at hP
  have hS : va_S (qA q) ss.heap H [] := by rw [← hHg]; exact hS
  suffices hgo : ∀ locs : List Loc, va_S (qA q) ss.heap H locs → W pp l ee rX0_setWeight ss mm args below meth cd H locs 0 0 Q (F0 mm 0 ls []) by
    first | exact hgo [] hS | (rw [hHg]; exact hgo [] hS)
  clear hS
  intro locs hS
  have hl : lv_has ls 5 [(0, .ref (q 0)), (1, .int (nI i)), (2, .int (nI k)), (3, .int x)] := hl
  refine lv_aload_n hx hb dX0_setWeight_0 rfl (lv_at hl 0 rfl) ?_
  refine lv_iload_n hx hb dX0_setWeight_1 rfl (lv_at hl 1 rfl) ?_
  refine va_csv (W.runV (As := [.int (nI i)]) (rest := []) S (c_X0_requireArm hn (i := i) (by omega)) (cwV 1 hts gX0_setWeight_X0_requireArm rfl rfl rfl hdX0_requireArm ⟨Nat.le_of_ble_eq_true rfl, Nat.le_of_ble_eq_true rfl⟩) (preV hK hP rfl rfl) rfl rfl hl.1 rfl (lv_room (Nat.le_of_ble_eq_true rfl)) dX0_setWeight_2 ⟨Nat.zero_le _, Nat.zero_le _⟩) (fun _ => ?_)
  refine lv_aload_n hx hb dX0_setWeight_5 rfl (lv_at hl 0 rfl) ?_
  refine lv_iload_n hx hb dX0_setWeight_6 rfl (lv_at hl 2 rfl) ?_
  refine va_csv (W.runV (As := [.int (nI k)]) (rest := []) S (c_X0_requireArm hn (i := k) (by omega)) (cwV 1 hts gX0_setWeight_X0_requireArm rfl rfl rfl hdX0_requireArm ⟨Nat.le_of_ble_eq_true rfl, Nat.le_of_ble_eq_true rfl⟩) (preV hK hP rfl rfl) rfl rfl hl.1 rfl (lv_room (Nat.le_of_ble_eq_true rfl)) dX0_setWeight_7 ⟨Nat.zero_le _, Nat.zero_le _⟩) (fun _ => ?_)
  refine lv_iload_n hx hb dX0_setWeight_10 rfl (lv_at hl 3 rfl) ?_
  refine lv_iconst (v := nI 0) hx hb dX0_setWeight_11 (by decide) ?_
  refine lv_bipush (v := nI 99) hx hb dX0_setWeight_12 (by decide) ?_
  refine va_csv (W.runS (As := [.int x, .int (nI 0), .int (nI 99)]) (rest := []) S (c_X0_requireWithin hx1 hx2) (va_cwS 3 hts gX0_setWeight_X0_requireWithin rfl rfl rfl hdX0_requireWithin ⟨Nat.le_of_ble_eq_true rfl, Nat.le_of_ble_eq_true rfl⟩) preS rfl rfl hl.1 rfl (lv_room (Nat.le_of_ble_eq_true rfl)) dX0_setWeight_14 ⟨Nat.zero_le _, Nat.zero_le _⟩) (fun _ => ?_)
  refine lv_aload_n hx hb dX0_setWeight_17 rfl (lv_at hl 0 rfl) ?_
  refine w_getC (own := RX0) (v := .ref (q 3)) S in_w hK hP rfl 2 (by decide) fl_16 rfl rfl dX0_setWeight_18 ?_
  refine lv_iload_n hx hb dX0_setWeight_21 rfl (lv_at hl 1 rfl) ?_
  refine lv_iload_n hx hb dX0_setWeight_22 rfl (lv_at hl 2 rfl) ?_
  refine vp_callSi (W.runS (As := [.int (nI i), .int (nI k)]) (rest := [.ref (q 3)]) S (c_X0_turn (i := i) (k := k)) (va_cwS 2 hts gX0_setWeight_X0_turn rfl rfl rfl hdX0_turn ⟨Nat.le_of_ble_eq_true rfl, Nat.le_of_ble_eq_true rfl⟩) preS rfl rfl hl.1 rfl (lv_room (Nat.le_of_ble_eq_true rfl)) dX0_setWeight_23 ⟨Nat.zero_le _, Nat.zero_le _⟩) (fun r_1 er_1 => ?_)
  subst er_1
  refine w_iald hx hb hK hP 3 0 rfl rfl (j := 6 * i + k) (v := w i k) (hW i k (by omega) (by omega)) (by omega) (by decide) dX0_setWeight_26 ?_
  refine lv_istore (lv' := [(4, .int (w i k)), (0, .ref (q 0)), (1, .int (nI i)), (2, .int (nI k)), (3, .int x)]) hx hb dX0_setWeight_27 hl (by decide) rfl (fun ls hl => ?_)
  refine lv_aload_n hx hb dX0_setWeight_29 rfl (lv_at hl 1 rfl) ?_
  refine lv_iload_n hx hb dX0_setWeight_30 rfl (lv_at hl 2 rfl) ?_
  refine lv_iload_n hx hb dX0_setWeight_31 rfl (lv_at hl 3 rfl) ?_
  refine lv_iload_n hx hb dX0_setWeight_32 rfl (lv_at hl 4 rfl) ?_
  refine va_callv (va_runV (As := [.int (nI i), .int (nI k), .int x]) (rest := []) S (c_X0_putWeight hn hW hT (i := i) (k := k) (x := x) (by omega) (by omega) hq) (cwV 3 hts gX0_setWeight_X0_putWeight rfl rfl rfl hdX0_putWeight ⟨Nat.le_of_ble_eq_true rfl, Nat.le_of_ble_eq_true rfl⟩) (preV hK hP rfl rfl) rfl rfl hl.1 rfl (lv_room (Nat.le_of_ble_eq_true rfl)) dX0_setWeight_33 ⟨Nat.zero_le _, Nat.zero_le _⟩) hS (fun _ _ h => h) (fun _ h => h) (fun u_3 t H locs ht hvm hw_4 hB hz1 hk1 hS => ?_)
  replace hB : va_P D cls2 _ t.heap := hB
  rw [ht] at hB
  obtain ⟨hg_8, T_5, hT_6, hB_7⟩ := hw_4
  have hP : va_P D cls2 (cW q cI cD (nI n) rC fi fo u_3.1 fe u_3.2 fr fp fl ff) H := hB
  refine lv_aload_n hx hb dX0_setWeight_36 rfl (lv_at hl 1 rfl) ?_
  refine va_callv (va_runV (As := []) (rest := []) S (c_X0_resetEstimate hn hg_8 hq) (cwV 0 hts gX0_setWeight_X0_resetEstimate rfl rfl rfl hdX0_resetEstimate ⟨Nat.le_of_ble_eq_true rfl, Nat.le_of_ble_eq_true rfl⟩) (preV hK hP rfl rfl) rfl rfl hl.1 rfl (lv_room (Nat.le_of_ble_eq_true rfl)) dX0_setWeight_37 ⟨Nat.zero_le _, Nat.zero_le _⟩) hS (fun _ _ h => h) (fun _ h => h) (fun u_10 t H locs ht hvm hw_11 hB hz1 hk1 hS => ?_)
  replace hB : va_P D cls2 _ t.heap := hB
  rw [ht] at hB
  have hP : va_P D cls2 (cW q cI cD (nI n) (nI 0) fi fo u_3.1 u_10 u_3.2 fr fp fl ff) H := hB
  refine lv_iload hx hb dX0_setWeight_40 (lv_at hl 0 rfl) ?_
  subst hQ
  exact W.iret hx hb hr (fun t ht hWm => ⟨⟨_, (u_3.1, u_10, u_3.2), rfl, ⟨rfl, hg_8, hw_11, _, hT_6, hB_7⟩, (show va_P D cls2 _ t.heap from by rw [ht]; exact hP)⟩, hS.F ht⟩) hS.2.2 dX0_setWeight_42
abbrev rX0_scale : Room := { frames := 2, cells := 0, slots := 0, locals := 43 }
theorem hdX0_scale : yX0_scale.cls = RX0 ∧ yX0_scale.cls ≠ "java/lang/invoke/MethodHandle" ∧ yX0_scale.cls ≠ "java/lang/invoke/VarHandle" ∧ (parseMethodDescriptor yX0_scale.desc).map (fun d => d.parameters.length) = some 1 := by decide +kernel
set_option maxHeartbeats 4000000 in
set_option maxRecDepth 100000 in
theorem c_X0_scale {l : Launch} {D : va_G} {q : Nat → Nat} {cI cD : ClassId} {rC : Int32} {fi fo fw : Nat → Int32} {fe : Nat → UInt64} {ft fr fp fl : Nat → Int32} {ff : Nat → UInt64} {n : Nat} (hn : 3 ≤ n ∧ n ≤ 6) {inf : Nat → Int32} (hI : ag1 n fi inf) {out : Nat → Int32} (hO : ag1 n fo out) {w : Nat → Nat → Int32} (hW : ag2 n fw w) {x : Int32} (hx1 : ¬ x < nI 0) (hx2 : x ≤ nI 300) (hsc : ∀ k : Nat, k < n → scl (inf k) x ≤ nI 9999 ∧ scl (out k) x ≤ nI 9999) (hq : qD q) : Met l yX0_scale wsX0_scale rX0_scale (va_Pc [.ref (q 0), .int x] (wPre D (tys2 cI cD) (cW q cI cD (nI n) rC fi fo fw fe ft fr fp fl ff))) (va_Qi (fun r (u : (Nat → Int32) × (Nat → Int32) × (Nat → UInt64)) => r = sumI (scO x n inf) n ∧ ag1 n u.1 (scO x n inf) ∧ ag1 n u.2.1 (scO x n out) ∧ ag2 n u.2.2 (lay w)) (fun u t => va_P D cls2 (cW q cI cD (nI n) (nI 0) u.1 u.2.1 fw u.2.2 ft fr fp fl ff) t.heap) (qA q)) 0 0 (qA q) := by
  refine met_intro (cc := cX0_scale) (maxL := 3) (ret := (some .int)) (own := RX0) (by decide) rfl rfl (Nat.le_of_ble_eq_true rfl) ?_
  intro pp ee ss mm args below meth cd Q ls hQ S hr hlocks hv hB hl
  obtain ⟨hx, hb, hml, hown, hts⟩ := id S
  obtain ⟨hP, hK⟩ := hB
  have in_w : ∀ w ∈ wsX00, w ∈ wsX0_scale := by decide +kernel
  have fl_9 : Cond.fieldLink RX0 9 RX0 (TX0 0).2.1 (TX0 0).2.2.1 ∈ wsX0_scale := by decide +kernel
  have fl_13 : Cond.fieldLink RX0 13 RX0 (TX0 1).2.1 (TX0 1).2.2.1 ∈ wsX0_scale := by decide +kernel
  have fl_46 : Cond.fieldLink RX0 46 RX0 (TX0 9).2.1 (TX0 9).2.2.1 ∈ wsX0_scale := by decide +kernel
  have hS : va_S (qA q) ss.heap ss.heap [] := va_S.rf
  generalize hHg : ss.heap = H at hP
  have hS : va_S (qA q) ss.heap H [] := by rw [← hHg]; exact hS
  suffices hgo : ∀ locs : List Loc, va_S (qA q) ss.heap H locs → W pp l ee rX0_scale ss mm args below meth cd H locs 0 0 Q (F0 mm 0 ls []) by
    first | exact hgo [] hS | (rw [hHg]; exact hgo [] hS)
  clear hS
  intro locs hS
  have hl : lv_has ls 3 [(0, .ref (q 0)), (1, .int x)] := hl
  refine lv_iload_n hx hb dX0_scale_0 rfl (lv_at hl 1 rfl) ?_
  refine lv_iconst (v := nI 0) hx hb dX0_scale_1 (by decide) ?_
  refine lv_sipush (v := nI 300) hx hb dX0_scale_2 (by decide) ?_
  refine va_csv (W.runS (As := [.int x, .int (nI 0), .int (nI 300)]) (rest := []) S (c_X0_requireWithin hx1 hx2) (va_cwS 3 hts gX0_scale_X0_requireWithin rfl rfl rfl hdX0_requireWithin ⟨Nat.le_of_ble_eq_true rfl, Nat.le_of_ble_eq_true rfl⟩) preS rfl rfl hl.1 rfl (lv_room (Nat.le_of_ble_eq_true rfl)) dX0_scale_5 ⟨Nat.zero_le _, Nat.zero_le _⟩) (fun _ => ?_)
  refine lv_iconst (v := nI 0) hx hb dX0_scale_8 (by decide) ?_
  refine lv_istore_n (lv' := [(2, .int (nI 0)), (0, .ref (q 0)), (1, .int x)]) hx hb dX0_scale_9 rfl hl (by decide) rfl (fun ls hl => ?_)
  have lp10 : ∀ (j k : Nat), k + j = n → ∀ (H : Heap) (locs : List Loc), va_P D cls2 (cW q cI cD (nI n) rC fi fo fw fe ft fr fp fl ff) H → va_S (qA q) ss.heap H locs → ∀ ls : Array Slot, lv_has ls 3 [(0, .ref (q 0)), (1, .int x), (2, .int (nI k))] → W pp l ee rX0_scale ss mm args below meth cd H locs 0 0 Q (F0 mm 10 ls []) := by
    intro j
    induction j with
    | zero =>
      intro k hk_k H locs hP hS ls hl
      have hke_k : n = k := by omega
      subst hke_k
      refine lv_iload_n hx hb dX0_scale_10 rfl (lv_at hl 2 rfl) ?_
      refine lv_aload_n hx hb dX0_scale_11 rfl (lv_at hl 0 rfl) ?_
      refine w_getC (own := RX0) (v := .int (nI n)) S in_w hK hP rfl 9 (by decide) fl_46 rfl rfl dX0_scale_12 ?_
      refine lv_icmp_ge (tgt := 44) hx hb dX0_scale_15 (by decide) (fun h15_0 => ?_) (fun h15_0 => absurd (Int32.le_refl _) h15_0)
      refine lv_iconst (v := nI 0) hx hb dX0_scale_44 (by decide) ?_
      refine lv_istore_n (lv' := [(2, .int (nI 0)), (0, .ref (q 0)), (1, .int x)]) hx hb dX0_scale_45 rfl hl (by decide) rfl (fun ls hl => ?_)
      have lp46 : ∀ (j k : Nat), k + j = n → ∀ (fi : Nat → Int32), ∀ (fo : Nat → Int32), ∀ (H : Heap) (locs : List Loc), ag1 n fi (scO x k inf) → ag1 n fo (scO x k out) → va_P D cls2 (cW q cI cD (nI n) rC fi fo fw fe ft fr fp fl ff) H → va_S (qA q) ss.heap H locs → ∀ ls : Array Slot, lv_has ls 3 [(0, .ref (q 0)), (1, .int x), (2, .int (nI k))] → W pp l ee rX0_scale ss mm args below meth cd H locs 0 0 Q (F0 mm 46 ls []) := by
        intro j
        induction j with
        | zero =>
          intro k hk_k fi fo H locs hg_fi hg_fo hP hS ls hl
          have hke_k : n = k := by omega
          subst hke_k
          refine lv_iload_n hx hb dX0_scale_46 rfl (lv_at hl 2 rfl) ?_
          refine lv_aload_n hx hb dX0_scale_47 rfl (lv_at hl 0 rfl) ?_
          refine w_getC (own := RX0) (v := .int (nI n)) S in_w hK hP rfl 9 (by decide) fl_46 rfl rfl dX0_scale_48 ?_
          refine lv_icmp_ge (tgt := 92) hx hb dX0_scale_51 (by decide) (fun h51_1 => ?_) (fun h51_1 => absurd (Int32.le_refl _) h51_1)
          refine lv_aload_n hx hb dX0_scale_92 rfl (lv_at hl 0 rfl) ?_
          refine va_callv (va_runV (As := []) (rest := []) S (c_X0_resetEstimate hn hW hq) (cwV 0 hts gX0_scale_X0_resetEstimate rfl rfl rfl hdX0_resetEstimate ⟨Nat.le_of_ble_eq_true rfl, Nat.le_of_ble_eq_true rfl⟩) (preV hK hP rfl rfl) rfl rfl hl.1 rfl (lv_room (Nat.le_of_ble_eq_true rfl)) dX0_scale_93 ⟨Nat.zero_le _, Nat.zero_le _⟩) hS (fun _ _ h => h) (fun _ h => h) (fun u_2 t H locs ht hvm hw_3 hB hz1 hk1 hS => ?_)
          replace hB : va_P D cls2 _ t.heap := hB
          rw [ht] at hB
          have hP : va_P D cls2 (cW q cI cD (nI n) (nI 0) fi fo fw u_2 ft fr fp fl ff) H := hB
          refine lv_aload_n hx hb dX0_scale_96 rfl (lv_at hl 0 rfl) ?_
          refine lv_aload_n hx hb dX0_scale_97 rfl (lv_at hl 0 rfl) ?_
          refine w_getC (own := RX0) (v := .ref (q 1)) S in_w hK hP rfl 0 (by decide) fl_9 rfl rfl dX0_scale_98 ?_
          refine vp_callSi (W.runV (As := [.ref (q 1)]) (rest := []) S (c_X0_totalI hn hg_fi) (cwV 1 hts gX0_scale_X0_total rfl rfl rfl hdX0_total ⟨Nat.le_of_ble_eq_true rfl, Nat.le_of_ble_eq_true rfl⟩) (preV hK hP rfl rfl) rfl rfl hl.1 rfl (lv_room (Nat.le_of_ble_eq_true rfl)) dX0_scale_101 ⟨Nat.zero_le _, Nat.zero_le _⟩) (fun r_4 er_4 => ?_)
          subst er_4
          subst hQ
          exact W.iret hx hb hr (fun t ht hWm => ⟨⟨_, (fi, fo, u_2), rfl, ⟨rfl, hg_fi, hg_fo, hw_3⟩, (show va_P D cls2 _ t.heap from by rw [ht]; exact hP)⟩, hS.F ht⟩) hS.2.2 dX0_scale_104
        | succ j ih =>
          intro k hk_k fi fo H locs hg_fi hg_fo hP hS ls hl
          have hlt_k : k < n := by omega
          refine lv_iload_n hx hb dX0_scale_46 rfl (lv_at hl 2 rfl) ?_
          refine lv_aload_n hx hb dX0_scale_47 rfl (lv_at hl 0 rfl) ?_
          refine w_getC (own := RX0) (v := .int (nI n)) S in_w hK hP rfl 9 (by decide) fl_46 rfl rfl dX0_scale_48 ?_
          refine lv_icmp_ge (tgt := 92) hx hb dX0_scale_51 (by decide) (fun h51_1 => absurd h51_1 (nI_ge hlt_k (by omega))) (fun h51_1 => ?_)
          refine lv_aload_n hx hb dX0_scale_54 rfl (lv_at hl 0 rfl) ?_
          refine w_getC (own := RX0) (v := .ref (q 1)) S in_w hK hP rfl 0 (by decide) fl_9 rfl rfl dX0_scale_55 ?_
          refine lv_iload_n hx hb dX0_scale_58 rfl (lv_at hl 2 rfl) ?_
          refine lv_aload_n hx hb dX0_scale_59 rfl (lv_at hl 0 rfl) ?_
          refine w_getC (own := RX0) (v := .ref (q 1)) S in_w hK hP rfl 0 (by decide) fl_9 rfl rfl dX0_scale_60 ?_
          refine lv_iload_n hx hb dX0_scale_63 rfl (lv_at hl 2 rfl) ?_
          refine w_iald hx hb hK hP 1 0 rfl rfl (j := k) (v := (scO x k inf) k) (hg_fi k (by omega)) (by omega) (by decide) dX0_scale_64 ?_
          refine lv_iload_n hx hb dX0_scale_65 rfl (lv_at hl 1 rfl) ?_
          refine vp_callSi (W.runS (As := [.int ((scO x k inf) k), .int x]) (rest := [.int (nI k), .ref (q 1)]) S (c_X0_scaled (a := (scO x k inf) k) (b := x)) (va_cwS 2 hts gX0_scale_X0_scaled rfl rfl rfl hdX0_scaled ⟨Nat.le_of_ble_eq_true rfl, Nat.le_of_ble_eq_true rfl⟩) preS rfl rfl hl.1 rfl (lv_room (Nat.le_of_ble_eq_true rfl)) dX0_scale_66 ⟨Nat.zero_le _, Nat.zero_le _⟩) (fun r_5 er_5 => ?_)
          subst er_5
          refine w_iast hx hb hK hP (wD_of hq rfl) hS 1 0 rfl rfl (j := k) (x := scl ((scO x k inf) k) x) (by omega) (by decide) dX0_scale_69 (fun H locs hP _ hS => ?_)
          have hP : va_P D cls2 (cW q cI cD (nI n) rC (upd fi k (scl ((scO x k inf) k) x)) fo fw fe ft fr fp fl ff) H := hP
          have g_7 : ag1 n (upd fi k (scl ((scO x k inf) k) x)) (upd (scO x k inf) k (scl ((scO x k inf) k) x)) := (ag1_upd hg_fi k (scl ((scO x k inf) k) x))
          generalize (upd fi k (scl ((scO x k inf) k) x)) = a_6 at hP g_7
          refine lv_aload_n hx hb dX0_scale_70 rfl (lv_at hl 0 rfl) ?_
          refine w_getC (own := RX0) (v := .ref (q 2)) S in_w hK hP rfl 1 (by decide) fl_13 rfl rfl dX0_scale_71 ?_
          refine lv_iload_n hx hb dX0_scale_74 rfl (lv_at hl 2 rfl) ?_
          refine lv_aload_n hx hb dX0_scale_75 rfl (lv_at hl 0 rfl) ?_
          refine w_getC (own := RX0) (v := .ref (q 2)) S in_w hK hP rfl 1 (by decide) fl_13 rfl rfl dX0_scale_76 ?_
          refine lv_iload_n hx hb dX0_scale_79 rfl (lv_at hl 2 rfl) ?_
          refine w_iald hx hb hK hP 2 0 rfl rfl (j := k) (v := (scO x k out) k) (hg_fo k (by omega)) (by omega) (by decide) dX0_scale_80 ?_
          refine lv_iload_n hx hb dX0_scale_81 rfl (lv_at hl 1 rfl) ?_
          refine vp_callSi (W.runS (As := [.int ((scO x k out) k), .int x]) (rest := [.int (nI k), .ref (q 2)]) S (c_X0_scaled (a := (scO x k out) k) (b := x)) (va_cwS 2 hts gX0_scale_X0_scaled rfl rfl rfl hdX0_scaled ⟨Nat.le_of_ble_eq_true rfl, Nat.le_of_ble_eq_true rfl⟩) preS rfl rfl hl.1 rfl (lv_room (Nat.le_of_ble_eq_true rfl)) dX0_scale_82 ⟨Nat.zero_le _, Nat.zero_le _⟩) (fun r_8 er_8 => ?_)
          subst er_8
          refine w_iast hx hb hK hP (wD_of hq rfl) hS 2 0 rfl rfl (j := k) (x := scl ((scO x k out) k) x) (by omega) (by decide) dX0_scale_85 (fun H locs hP _ hS => ?_)
          have hP : va_P D cls2 (cW q cI cD (nI n) rC a_6 (upd fo k (scl ((scO x k out) k) x)) fw fe ft fr fp fl ff) H := hP
          have g_10 : ag1 n (upd fo k (scl ((scO x k out) k) x)) (upd (scO x k out) k (scl ((scO x k out) k) x)) := (ag1_upd hg_fo k (scl ((scO x k out) k) x))
          generalize (upd fo k (scl ((scO x k out) k) x)) = a_9 at hP g_10
          refine lv_iinc (v := nI (k + 1)) (lv' := [(2, .int (nI (k + 1))), (0, .ref (q 0)), (1, .int x)]) hx hb dX0_scale_86 hl (k := 2) rfl (by rw [show Int32.ofInt 1 = nI 1 from by decide, nI_add]) (by decide) rfl (fun ls hl => ?_)
          refine lv_goto (tgt := 46) hx hb dX0_scale_89 (by decide) ?_
          have eq_11 : scO x (k + 1) inf = upd (scO x k inf) k (scl ((scO x k inf) k) x) := by rfl
          have eq_12 : scO x (k + 1) out = upd (scO x k out) k (scl ((scO x k out) k) x) := by rfl
          exact ih (k + 1) (by omega) _ _ _ _ (by rw [eq_11]; exact g_7) (by rw [eq_12]; exact g_10) hP hS ls (lv_sub hl [1, 2, 0] rfl)
      exact lp46 (n - 0) 0 (by omega) _ _ _ _ hI hO hP hS ls (lv_sub hl [1, 2, 0] rfl)
    | succ j ih =>
      intro k hk_k H locs hP hS ls hl
      have hlt_k : k < n := by omega
      refine lv_iload_n hx hb dX0_scale_10 rfl (lv_at hl 2 rfl) ?_
      refine lv_aload_n hx hb dX0_scale_11 rfl (lv_at hl 0 rfl) ?_
      refine w_getC (own := RX0) (v := .int (nI n)) S in_w hK hP rfl 9 (by decide) fl_46 rfl rfl dX0_scale_12 ?_
      refine lv_icmp_ge (tgt := 44) hx hb dX0_scale_15 (by decide) (fun h15_0 => absurd h15_0 (nI_ge hlt_k (by omega))) (fun h15_0 => ?_)
      refine lv_aload_n hx hb dX0_scale_18 rfl (lv_at hl 0 rfl) ?_
      refine w_getC (own := RX0) (v := .ref (q 1)) S in_w hK hP rfl 0 (by decide) fl_9 rfl rfl dX0_scale_19 ?_
      refine lv_iload_n hx hb dX0_scale_22 rfl (lv_at hl 2 rfl) ?_
      refine w_iald hx hb hK hP 1 0 rfl rfl (j := k) (v := inf k) (hI k (by omega)) (by omega) (by decide) dX0_scale_23 ?_
      refine lv_iload_n hx hb dX0_scale_24 rfl (lv_at hl 1 rfl) ?_
      refine va_csv (W.runS (As := [.int (inf k), .int x]) (rest := []) S (c_X0_requireScalable (hsc k (by omega)).1) (va_cwS 2 hts gX0_scale_X0_requireScalable rfl rfl rfl hdX0_requireScalable ⟨Nat.le_of_ble_eq_true rfl, Nat.le_of_ble_eq_true rfl⟩) preS rfl rfl hl.1 rfl (lv_room (Nat.le_of_ble_eq_true rfl)) dX0_scale_25 ⟨Nat.zero_le _, Nat.zero_le _⟩) (fun _ => ?_)
      refine lv_aload_n hx hb dX0_scale_28 rfl (lv_at hl 0 rfl) ?_
      refine w_getC (own := RX0) (v := .ref (q 2)) S in_w hK hP rfl 1 (by decide) fl_13 rfl rfl dX0_scale_29 ?_
      refine lv_iload_n hx hb dX0_scale_32 rfl (lv_at hl 2 rfl) ?_
      refine w_iald hx hb hK hP 2 0 rfl rfl (j := k) (v := out k) (hO k (by omega)) (by omega) (by decide) dX0_scale_33 ?_
      refine lv_iload_n hx hb dX0_scale_34 rfl (lv_at hl 1 rfl) ?_
      refine va_csv (W.runS (As := [.int (out k), .int x]) (rest := []) S (c_X0_requireScalable (hsc k (by omega)).2) (va_cwS 2 hts gX0_scale_X0_requireScalable rfl rfl rfl hdX0_requireScalable ⟨Nat.le_of_ble_eq_true rfl, Nat.le_of_ble_eq_true rfl⟩) preS rfl rfl hl.1 rfl (lv_room (Nat.le_of_ble_eq_true rfl)) dX0_scale_35 ⟨Nat.zero_le _, Nat.zero_le _⟩) (fun _ => ?_)
      refine lv_iinc (v := nI (k + 1)) (lv' := [(2, .int (nI (k + 1))), (0, .ref (q 0)), (1, .int x)]) hx hb dX0_scale_38 hl (k := 2) rfl (by rw [show Int32.ofInt 1 = nI 1 from by decide, nI_add]) (by decide) rfl (fun ls hl => ?_)
      refine lv_goto (tgt := 10) hx hb dX0_scale_41 (by decide) ?_
      exact ih (k + 1) (by omega) _ _ hP hS ls (lv_sub hl [1, 2, 0] rfl)
  exact lp10 (n - 0) 0 (by omega) _ _ hP hS ls (lv_sub hl [1, 2, 0] rfl)
abbrev rX0_excess : Room := { frames := 3, cells := 0, slots := 0, locals := 69 }
theorem hdX0_excess : yX0_excess.cls = RX0 ∧ yX0_excess.cls ≠ "java/lang/invoke/MethodHandle" ∧ yX0_excess.cls ≠ "java/lang/invoke/VarHandle" ∧ (parseMethodDescriptor yX0_excess.desc).map (fun d => d.parameters.length) = some 1 := by decide +kernel
set_option maxHeartbeats 4000000 in
set_option maxRecDepth 100000 in
theorem c_X0_excess {l : Launch} {D : va_G} {q : Nat → Nat} {cI cD : ClassId} {rC : Int32} {fi fo fw : Nat → Int32} {fe : Nat → UInt64} {ft fr fp fl : Nat → Int32} {ff : Nat → UInt64} {n : Nat} (hn : 3 ≤ n ∧ n ≤ 6) {inf : Nat → Int32} (hI : ag1 n fi inf) {out : Nat → Int32} (hO : ag1 n fo out) {T : Nat → Nat} (hT : ∀ j : Nat, j < 6 → ft j = nI (T j) ∧ T j < 64) {op : Nat → Nat → Bool} (hT2 : ∀ i j : Nat, i < n → j < n → (T i).testBit j = op i j) {s : Nat} (hs : s < 2 ^ n) : Met l yX0_excess wsX0_excess rX0_excess (va_Pc [.ref (q 0), .int (nI s)] (wPre D (tys2 cI cD) (cW q cI cD (nI n) rC fi fo fw fe ft fr fp fl ff))) (vp_Si (fun r => r = exc n op inf out s n)) 0 0 (fun _ => False) := by
  refine met_intro (cc := cX0_excess) (maxL := 2) (ret := (some .int)) (own := RX0) (by decide) rfl rfl (Nat.le_of_ble_eq_true rfl) ?_
  intro pp ee ss mm args below meth cd Q ls hQ S hr hlocks hv hB hl
  obtain ⟨hx, hb, hml, hown, hts⟩ := id S
  obtain ⟨hP, hK⟩ := hB
  have in_w : ∀ w ∈ wsX00, w ∈ wsX0_excess := by decide +kernel
  have fl_13 : Cond.fieldLink RX0 13 RX0 (TX0 1).2.1 (TX0 1).2.2.1 ∈ wsX0_excess := by decide +kernel
  have hl : lv_has ls 2 [(0, .ref (q 0)), (1, .int (nI s))] := hl
  have hp6 := pow6 hn
  refine lv_iload_n hx hb dX0_excess_0 rfl (lv_at hl 1 rfl) ?_
  refine lv_iconst (v := nI 0) hx hb dX0_excess_1 (by decide) ?_
  refine lv_aload_n hx hb dX0_excess_2 rfl (lv_at hl 0 rfl) ?_
  refine vp_callSi (W.runV (As := []) (rest := [.int (nI 0), .int (nI s)]) S (c_X0_allArms hn) (cwV 0 hts gX0_excess_X0_allArms rfl rfl rfl hdX0_allArms ⟨Nat.le_of_ble_eq_true rfl, Nat.le_of_ble_eq_true rfl⟩) (preV hK hP rfl rfl) rfl rfl hl.1 rfl (lv_room (Nat.le_of_ble_eq_true rfl)) dX0_excess_3 ⟨Nat.zero_le _, Nat.zero_le _⟩) (fun r_1 er_1 => ?_)
  subst er_1
  refine va_csv (W.runS (As := [.int (nI s), .int (nI 0), .int (nI (2 ^ n - 1))]) (rest := []) S (c_X0_requireWithin (nI_nlt (by omega) (by omega)) (nI_le (by omega) (by omega))) (va_cwS 3 hts gX0_excess_X0_requireWithin rfl rfl rfl hdX0_requireWithin ⟨Nat.le_of_ble_eq_true rfl, Nat.le_of_ble_eq_true rfl⟩) preS rfl rfl hl.1 rfl (lv_room (Nat.le_of_ble_eq_true rfl)) dX0_excess_6 ⟨Nat.zero_le _, Nat.zero_le _⟩) (fun _ => ?_)
  refine lv_aload_n hx hb dX0_excess_9 rfl (lv_at hl 0 rfl) ?_
  refine lv_iload_n hx hb dX0_excess_10 rfl (lv_at hl 1 rfl) ?_
  refine lv_aload_n hx hb dX0_excess_11 rfl (lv_at hl 0 rfl) ?_
  refine w_getC (own := RX0) (v := .ref (q 2)) S in_w hK hP rfl 1 (by decide) fl_13 rfl rfl dX0_excess_12 ?_
  refine vp_callSi (W.runV (As := [.int (nI s), .ref (q 2)]) (rest := []) S (c_X0_excessOverO hn hI hT hO hT2 (s := s) (by omega)) (cwV 2 hts gX0_excess_X0_excessOver rfl rfl rfl hdX0_excessOver ⟨Nat.le_of_ble_eq_true rfl, Nat.le_of_ble_eq_true rfl⟩) (preV hK hP rfl rfl) rfl rfl hl.1 rfl (lv_room (Nat.le_of_ble_eq_true rfl)) dX0_excess_15 ⟨Nat.zero_le _, Nat.zero_le _⟩) (fun r_2 er_2 => ?_)
  subst er_2
  subst hQ
  exact W.iret hx hb hr (fun t ht hWm => ⟨_, rfl, rfl, ht⟩) (fun q h => absurd h List.not_mem_nil) dX0_excess_18
abbrev rX0_iterate : Room := { frames := 4, cells := 0, slots := 0, locals := 92 }
theorem hdX0_iterate : yX0_iterate.cls = RX0 ∧ yX0_iterate.cls ≠ "java/lang/invoke/MethodHandle" ∧ yX0_iterate.cls ≠ "java/lang/invoke/VarHandle" ∧ (parseMethodDescriptor yX0_iterate.desc).map (fun d => d.parameters.length) = some 1 := by decide +kernel
set_option maxHeartbeats 4000000 in
set_option maxRecDepth 100000 in
theorem c_X0_iterate {l : Launch} {D : va_G} {q : Nat → Nat} {cI cD : ClassId} {rC : Int32} {fi fo fw : Nat → Int32} {fe : Nat → UInt64} {ft fr fp fl : Nat → Int32} {ff : Nat → UInt64} {n : Nat} (hn : 3 ≤ n ∧ n ≤ 6) {inf : Nat → Int32} (hI : ag1 n fi inf) {out : Nat → Int32} (hO : ag1 n fo out) {e : Nat → Nat → UInt64} (hE : ag2 n fe e) {m : Nat} (hm : 1 ≤ m ∧ m ≤ 50) (ho : ∀ k : Nat, k < m → okRnd n inf out (rndK n inf out k e)) (hq : qD q) : Met l yX0_iterate wsX0_iterate rX0_iterate (va_Pc [.ref (q 0), .int (nI m)] (wPre D (tys2 cI cD) (cW q cI cD (nI n) rC fi fo fw fe ft fr fp fl ff))) (va_Qi (fun r (u : Nat → UInt64) => r = rC + nI m ∧ ag2 n u (rndK n inf out m e)) (fun u t => va_P D cls2 (cW q cI cD (nI n) (rC + nI m) fi fo fw u ft fr fp fl ff) t.heap) (qA q)) 0 0 (qA q) := by
  refine met_intro (cc := cX0_iterate) (maxL := 3) (ret := (some .int)) (own := RX0) (by decide) rfl rfl (Nat.le_of_ble_eq_true rfl) ?_
  intro pp ee ss mm args below meth cd Q ls hQ S hr hlocks hv hB hl
  obtain ⟨hx, hb, hml, hown, hts⟩ := id S
  obtain ⟨hP, hK⟩ := hB
  have in_w : ∀ w ∈ wsX00, w ∈ wsX0_iterate := by decide +kernel
  have fl_95 : Cond.fieldLink RX0 95 RX0 (TX0 10).2.1 (TX0 10).2.2.1 ∈ wsX0_iterate := by decide +kernel
  have hS : va_S (qA q) ss.heap ss.heap [] := va_S.rf
  generalize hHg : ss.heap = H at hP
  have hS : va_S (qA q) ss.heap H [] := by rw [← hHg]; exact hS
  suffices hgo : ∀ locs : List Loc, va_S (qA q) ss.heap H locs → W pp l ee rX0_iterate ss mm args below meth cd H locs 0 0 Q (F0 mm 0 ls []) by
    first | exact hgo [] hS | (rw [hHg]; exact hgo [] hS)
  clear hS
  intro locs hS
  have hl : lv_has ls 3 [(0, .ref (q 0)), (1, .int (nI m))] := hl
  refine lv_iload_n hx hb dX0_iterate_0 rfl (lv_at hl 1 rfl) ?_
  refine lv_iconst (v := nI 1) hx hb dX0_iterate_1 (by decide) ?_
  refine lv_bipush (v := nI 50) hx hb dX0_iterate_2 (by decide) ?_
  refine va_csv (W.runS (As := [.int (nI m), .int (nI 1), .int (nI 50)]) (rest := []) S (c_X0_requireWithin (nI_nlt hm.1 (by omega)) (nI_le hm.2 (by decide))) (va_cwS 3 hts gX0_iterate_X0_requireWithin rfl rfl rfl hdX0_requireWithin ⟨Nat.le_of_ble_eq_true rfl, Nat.le_of_ble_eq_true rfl⟩) preS rfl rfl hl.1 rfl (lv_room (Nat.le_of_ble_eq_true rfl)) dX0_iterate_4 ⟨Nat.zero_le _, Nat.zero_le _⟩) (fun _ => ?_)
  refine lv_iconst (v := nI 0) hx hb dX0_iterate_7 (by decide) ?_
  refine lv_istore_n (lv' := [(2, .int (nI 0)), (0, .ref (q 0)), (1, .int (nI m))]) hx hb dX0_iterate_8 rfl hl (by decide) rfl (fun ls hl => ?_)
  have lp9 : ∀ (j k : Nat), k + j = m → ∀ (fe : Nat → UInt64), ∀ (H : Heap) (locs : List Loc), ag2 n fe (rndK n inf out k e) → va_P D cls2 (cW q cI cD (nI n) (rC + nI k) fi fo fw fe ft fr fp fl ff) H → va_S (qA q) ss.heap H locs → ∀ ls : Array Slot, lv_has ls 3 [(0, .ref (q 0)), (1, .int (nI m)), (2, .int (nI k))] → W pp l ee rX0_iterate ss mm args below meth cd H locs 0 0 Q (F0 mm 9 ls []) := by
    intro j
    induction j with
    | zero =>
      intro k hk_k fe H locs hg_fe hP hS ls hl
      have hke_k : m = k := by omega
      subst hke_k
      refine lv_iload_n hx hb dX0_iterate_9 rfl (lv_at hl 2 rfl) ?_
      refine lv_iload_n hx hb dX0_iterate_10 rfl (lv_at hl 1 rfl) ?_
      refine lv_icmp_ge (tgt := 24) hx hb dX0_iterate_11 (by decide) (fun h11_0 => ?_) (fun h11_0 => absurd (Int32.le_refl _) h11_0)
      refine lv_aload_n hx hb dX0_iterate_24 rfl (lv_at hl 0 rfl) ?_
      refine w_getC (own := RX0) (v := .int (rC + nI m)) S in_w hK hP rfl 10 (by decide) fl_95 rfl rfl dX0_iterate_25 ?_
      subst hQ
      exact W.iret hx hb hr (fun t ht hWm => ⟨⟨_, fe, rfl, ⟨rfl, hg_fe⟩, (show va_P D cls2 _ t.heap from by rw [ht]; exact hP)⟩, hS.F ht⟩) hS.2.2 dX0_iterate_28
    | succ j ih =>
      intro k hk_k fe H locs hg_fe hP hS ls hl
      have hlt_k : k < m := by omega
      refine lv_iload_n hx hb dX0_iterate_9 rfl (lv_at hl 2 rfl) ?_
      refine lv_iload_n hx hb dX0_iterate_10 rfl (lv_at hl 1 rfl) ?_
      refine lv_icmp_ge (tgt := 24) hx hb dX0_iterate_11 (by decide) (fun h11_0 => absurd h11_0 (nI_ge hlt_k (by omega))) (fun h11_0 => ?_)
      refine lv_aload_n hx hb dX0_iterate_14 rfl (lv_at hl 0 rfl) ?_
      refine va_callv (va_runV (As := []) (rest := []) S (c_X0_carryOutRound hn hI hO hg_fe (ho k (by omega)) hq) (cwV 0 hts gX0_iterate_X0_carryOutRound rfl rfl rfl hdX0_carryOutRound ⟨Nat.le_of_ble_eq_true rfl, Nat.le_of_ble_eq_true rfl⟩) (preV hK hP rfl rfl) rfl rfl hl.1 rfl (lv_room (Nat.le_of_ble_eq_true rfl)) dX0_iterate_15 ⟨Nat.zero_le _, Nat.zero_le _⟩) hS (fun _ _ h => h) (fun _ h => h) (fun u_2 t H locs ht hvm hw_3 hB hz1 hk1 hS => ?_)
      replace hB : va_P D cls2 _ t.heap := hB
      rw [ht] at hB
      have hP : va_P D cls2 (cW q cI cD (nI n) ((rC + nI k) + nI 1) fi fo fw u_2 ft fr fp fl ff) H := hB
      refine lv_iinc (v := nI (k + 1)) (lv' := [(2, .int (nI (k + 1))), (0, .ref (q 0)), (1, .int (nI m))]) hx hb dX0_iterate_18 hl (k := 2) rfl (by rw [show Int32.ofInt 1 = nI 1 from by decide, nI_add]) (by decide) rfl (fun ls hl => ?_)
      refine lv_goto (tgt := 9) hx hb dX0_iterate_21 (by decide) ?_
      have eq_4 : rC + nI (k + 1) = (rC + nI k) + nI 1 := by first | rfl | exact (nI_addc _ _).symm
      rw [← eq_4] at hP
      have eq_5 : rndK n inf out (k + 1) e = rnd n inf out (rndK n inf out k e) := by first | rfl | exact (nI_addc _ _).symm
      exact ih (k + 1) (by omega) _ _ _ (by rw [eq_5]; exact hw_3) hP hS ls (lv_sub hl [1, 2, 0] rfl)
  exact lp9 (m - 0) 0 (by omega) _ _ _ hE (by rw [add_nI0]; exact hP) hS ls (lv_sub hl [1, 2, 0] rfl)
abbrev rX0_fit : Room := { frames := 4, cells := 0, slots := 0, locals := 92 }
theorem hdX0_fit : yX0_fit.cls = RX0 ∧ yX0_fit.cls ≠ "java/lang/invoke/MethodHandle" ∧ yX0_fit.cls ≠ "java/lang/invoke/VarHandle" ∧ (parseMethodDescriptor yX0_fit.desc).map (fun d => d.parameters.length) = some 2 := by decide +kernel
set_option maxHeartbeats 4000000 in
set_option maxRecDepth 100000 in
theorem c_X0_fit {l : Launch} {D : va_G} {q : Nat → Nat} {cI cD : ClassId} {rC : Int32} {fi fo fw : Nat → Int32} {fe : Nat → UInt64} {ft fr fp fl : Nat → Int32} {ff : Nat → UInt64} {n : Nat} (hn : 3 ≤ n ∧ n ≤ 6) {inf : Nat → Int32} (hI : ag1 n fi inf) {out : Nat → Int32} (hO : ag1 n fo out) {e : Nat → Nat → UInt64} (hE : ag2 n fe e) {tt m : Nat} (ht : tt ≤ 100000) (hm : 1 ≤ m ∧ m ≤ 100) (hd : vf_n64 (dvT (nI tt))) (ho : ∀ k : Nat, k < m → okRnd n inf out (rndK n inf out k e) ∧ okM n inf out (rndK n inf out k e)) (hq : qD q) : Met l yX0_fit wsX0_fit rX0_fit (va_Pc [.ref (q 0), .int (nI tt), .int (nI m)] (wPre D (tys2 cI cD) (cW q cI cD (nI n) rC fi fo fw fe ft fr fp fl ff))) (va_Qi (fun r (u : Nat → UInt64) => r = nI (fitF n inf out (dvT (nI tt)) m 0 e) ∧ ag2 n u (rndK n inf out (fitF n inf out (dvT (nI tt)) m 0 e) e)) (fun u t => va_P D cls2 (cW q cI cD (nI n) (rC + nI (fitF n inf out (dvT (nI tt)) m 0 e)) fi fo fw u ft fr fp fl ff) t.heap) (qA q)) 0 0 (qA q) := by
  refine met_intro (cc := cX0_fit) (maxL := 6) (ret := (some .int)) (own := RX0) (by decide) rfl rfl (Nat.le_of_ble_eq_true rfl) ?_
  intro pp ee ss mm args below meth cd Q ls hQ S hr hlocks hv hB hl
  obtain ⟨hx, hb, hml, hown, hts⟩ := id S
  obtain ⟨hP, hK⟩ := hB
  have hS : va_S (qA q) ss.heap ss.heap [] := va_S.rf
  generalize hHg : ss.heap = H at hP
  have hS : va_S (qA q) ss.heap H [] := by rw [← hHg]; exact hS
  suffices hgo : ∀ locs : List Loc, va_S (qA q) ss.heap H locs → W pp l ee rX0_fit ss mm args below meth cd H locs 0 0 Q (F0 mm 0 ls []) by
    first | exact hgo [] hS | (rw [hHg]; exact hgo [] hS)
  clear hS
  intro locs hS
  have hl : lv_has ls 6 [(0, .ref (q 0)), (1, .int (nI tt)), (2, .int (nI m))] := hl
  obtain ⟨KK, hKK⟩ : ∃ z, z = fitF n inf out (dvT (nI tt)) m 0 e := ⟨_, rfl⟩
  rw [← hKK] at hQ
  refine lv_iload_n hx hb dX0_fit_0 rfl (lv_at hl 1 rfl) ?_
  refine lv_iconst (v := nI 0) hx hb dX0_fit_1 (by decide) ?_
  refine lv_ldc (v := nI 100000) hx hb hown (hts (.constant RX0 98 (nI 100000)) (by decide +kernel)) dX0_fit_2 ?_
  refine va_csv (W.runS (As := [.int (nI tt), .int (nI 0), .int (nI 100000)]) (rest := []) S (c_X0_requireWithin (nI_nlt (by omega) (by omega)) (nI_le ht (by decide))) (va_cwS 3 hts gX0_fit_X0_requireWithin rfl rfl rfl hdX0_requireWithin ⟨Nat.le_of_ble_eq_true rfl, Nat.le_of_ble_eq_true rfl⟩) preS rfl rfl hl.1 rfl (lv_room (Nat.le_of_ble_eq_true rfl)) dX0_fit_4 ⟨Nat.zero_le _, Nat.zero_le _⟩) (fun _ => ?_)
  refine lv_iload_n hx hb dX0_fit_7 rfl (lv_at hl 2 rfl) ?_
  refine lv_iconst (v := nI 1) hx hb dX0_fit_8 (by decide) ?_
  refine lv_bipush (v := nI 100) hx hb dX0_fit_9 (by decide) ?_
  refine va_csv (W.runS (As := [.int (nI m), .int (nI 1), .int (nI 100)]) (rest := []) S (c_X0_requireWithin (nI_nlt hm.1 (by omega)) (nI_le hm.2 (by decide))) (va_cwS 3 hts gX0_fit_X0_requireWithin rfl rfl rfl hdX0_requireWithin ⟨Nat.le_of_ble_eq_true rfl, Nat.le_of_ble_eq_true rfl⟩) preS rfl rfl hl.1 rfl (lv_room (Nat.le_of_ble_eq_true rfl)) dX0_fit_11 ⟨Nat.zero_le _, Nat.zero_le _⟩) (fun _ => ?_)
  refine lv_iload_n hx hb dX0_fit_14 rfl (lv_at hl 1 rfl) ?_
  refine lv_i2d hx hb dX0_fit_15 ?_
  refine lv_ldc2d (v := 4652007308841189376) hx hb hown (hts (.constantDouble RX0 99 4652007308841189376) (by decide +kernel)) dX0_fit_16 ?_
  refine lv_ddiv hx hb dX0_fit_19 hd ?_
  show W _ _ _ _ _ _ _ _ _ _ _ _ _ _ _ (F0 mm 20 ls (.double (dvT (nI tt)) :: _))
  refine lv_dstore_n (lv' := [(3, .double (dvT (nI tt))), (0, .ref (q 0)), (1, .int (nI tt)), (2, .int (nI m))]) hx hb dX0_fit_20 rfl hl (by decide) rfl (fun ls hl => ?_)
  refine lv_iconst (v := nI 0) hx hb dX0_fit_21 (by decide) ?_
  refine lv_istore (lv' := [(5, .int (nI 0)), (3, .double (dvT (nI tt))), (0, .ref (q 0)), (1, .int (nI tt)), (2, .int (nI m))]) hx hb dX0_fit_22 hl (by decide) rfl (fun ls hl => ?_)
  have lp24 : ∀ (j k : Nat), k + j = m → ∀ (fe : Nat → UInt64), ∀ (H : Heap) (locs : List Loc), ag2 n fe (rndK n inf out k e) → (fitF n inf out (dvT (nI tt)) j k (rndK n inf out k e) = KK) → va_P D cls2 (cW q cI cD (nI n) (rC + nI k) fi fo fw fe ft fr fp fl ff) H → va_S (qA q) ss.heap H locs → ∀ ls : Array Slot, lv_has ls 6 [(0, .ref (q 0)), (1, .int (nI tt)), (2, .int (nI m)), (3, .double (dvT (nI tt))), (5, .int (nI k))] → W pp l ee rX0_fit ss mm args below meth cd H locs 0 0 Q (F0 mm 24 ls []) := by
    intro j
    induction j with
    | zero =>
      intro k hk_k fe H locs hg_fe hres hP hS ls hl
      have hke_k : m = k := by omega
      subst hke_k
      refine lv_iload hx hb dX0_fit_24 (lv_at hl 4 rfl) ?_
      refine lv_iload_n hx hb dX0_fit_26 rfl (lv_at hl 2 rfl) ?_
      refine lv_icmp_ge (tgt := 49) hx hb dX0_fit_27 (by decide) (fun h27_0 => ?_) (fun h27_0 => absurd (Int32.le_refl _) h27_0)
      refine lv_iload hx hb dX0_fit_49 (lv_at hl 4 rfl) ?_
      have hk9 : KK = m := by rw [← hres]; rfl
      subst hk9
      subst hQ
      exact W.iret hx hb hr (fun t ht hWm => ⟨⟨_, fe, rfl, ⟨rfl, hg_fe⟩, (show va_P D cls2 _ t.heap from by rw [ht]; exact hP)⟩, hS.F ht⟩) hS.2.2 dX0_fit_51
    | succ j ih =>
      intro k hk_k fe H locs hg_fe hres hP hS ls hl
      have hlt_k : k < m := by omega
      refine lv_iload hx hb dX0_fit_24 (lv_at hl 4 rfl) ?_
      refine lv_iload_n hx hb dX0_fit_26 rfl (lv_at hl 2 rfl) ?_
      refine lv_icmp_ge (tgt := 49) hx hb dX0_fit_27 (by decide) (fun h27_0 => absurd h27_0 (nI_ge hlt_k (by omega))) (fun h27_0 => ?_)
      refine lv_aload_n hx hb dX0_fit_30 rfl (lv_at hl 0 rfl) ?_
      refine vp_callSd (W.runV (As := []) (rest := []) S (c_X0_misfit hn hI hO hg_fe (ho k (by omega)).2) (cwV 0 hts gX0_fit_X0_misfit rfl rfl rfl hdX0_misfit ⟨Nat.le_of_ble_eq_true rfl, Nat.le_of_ble_eq_true rfl⟩) (preV hK hP rfl rfl) rfl rfl hl.1 rfl (lv_room (Nat.le_of_ble_eq_true rfl)) dX0_fit_31 ⟨Nat.zero_le _, Nat.zero_le _⟩) (fun r_1 er_1 => ?_)
      subst er_1
      refine lv_dload_n hx hb dX0_fit_34 rfl (lv_at hl 3 rfl) ?_
      refine w_dgt (tgt := 49) hx hb dX0_fit_35 dX0_fit_36 (by decide) (fun h35_1 => ?_) (fun h35_1 => ?_)
      · refine lv_iload hx hb dX0_fit_49 (lv_at hl 4 rfl) ?_
        have hk9 : KK = k := by rw [← hres]; show (if _ then _ else _) = _; rw [if_neg (by rw [h35_1]; decide)]
        subst hk9
        subst hQ
        exact W.iret hx hb hr (fun t ht hWm => ⟨⟨_, fe, rfl, ⟨rfl, hg_fe⟩, (show va_P D cls2 _ t.heap from by rw [ht]; exact hP)⟩, hS.F ht⟩) hS.2.2 dX0_fit_51
      · refine lv_aload_n hx hb dX0_fit_39 rfl (lv_at hl 0 rfl) ?_
        refine va_callv (va_runV (As := []) (rest := []) S (c_X0_carryOutRound hn hI hO hg_fe (ho k (by omega)).1 hq) (cwV 0 hts gX0_fit_X0_carryOutRound rfl rfl rfl hdX0_carryOutRound ⟨Nat.le_of_ble_eq_true rfl, Nat.le_of_ble_eq_true rfl⟩) (preV hK hP rfl rfl) rfl rfl hl.1 rfl (lv_room (Nat.le_of_ble_eq_true rfl)) dX0_fit_40 ⟨Nat.zero_le _, Nat.zero_le _⟩) hS (fun _ _ h => h) (fun _ h => h) (fun u_3 t H locs ht hvm hw_4 hB hz1 hk1 hS => ?_)
        replace hB : va_P D cls2 _ t.heap := hB
        rw [ht] at hB
        have hP : va_P D cls2 (cW q cI cD (nI n) ((rC + nI k) + nI 1) fi fo fw u_3 ft fr fp fl ff) H := hB
        refine lv_iinc (v := nI (k + 1)) (lv' := [(5, .int (nI (k + 1))), (0, .ref (q 0)), (1, .int (nI tt)), (2, .int (nI m)), (3, .double (dvT (nI tt)))]) hx hb dX0_fit_43 hl (k := 4) rfl (by rw [show Int32.ofInt 1 = nI 1 from by decide, nI_add]) (by decide) rfl (fun ls hl => ?_)
        refine lv_goto (tgt := 24) hx hb dX0_fit_46 (by decide) ?_
        have eq_5 : rC + nI (k + 1) = (rC + nI k) + nI 1 := by first | rfl | exact (nI_addc _ _).symm
        rw [← eq_5] at hP
        have eq_6 : rndK n inf out (k + 1) e = rnd n inf out (rndK n inf out k e) := by first | rfl | exact (nI_addc _ _).symm
        exact ih (k + 1) (by omega) _ _ _ (by rw [eq_6]; exact hw_4) (by rw [← hres]; show _ = if _ then _ else _; rw [if_pos h35_1]; rfl) hP hS ls (lv_sub hl [1, 2, 3, 4, 0] rfl)
  exact lp24 (m - 0) 0 (by omega) _ _ _ hE hKK.symm (by rw [add_nI0]; exact hP) hS ls (lv_sub hl [2, 3, 4, 1, 0] rfl)
