theorem wth_t1 {v a b : Int32} (h : wth v a b = true) : ¬ v < a := by
  intro h1
  unfold wth at h
  rw [if_pos h1] at h; cases h
theorem wth_t2 {v a b : Int32} (h : wth v a b = true) : v ≤ b := by
  unfold wth at h
  rw [if_neg (wth_t1 h)] at h
  by_cases h3 : b < v
  · rw [if_pos h3] at h; cases h
  · exact Int32.not_lt.mp h3
theorem slB_s {inf out : Nat → Int32} {x : Int32} {k : Nat} (h : slB inf out x k = true) (h1 : scl (inf k) x ≤ nI 9999) (h2 : scl (out k) x ≤ nI 9999) : slB inf out x (k + 1) = true := by
  show (slB inf out x k && (!decide (nI 9999 < scl (inf k) x) && !decide (nI 9999 < scl (out k) x))) = true
  rw [h, decide_eq_false (Int32.not_lt.mpr h1), decide_eq_false (Int32.not_lt.mpr h2)]; rfl
abbrev rxX0_requireArm : Room := { frames := 6, cells := 1, slots := 6, locals := 90 }
set_option maxHeartbeats 4000000 in
set_option maxRecDepth 100000 in
theorem x_X0_requireArm {l : Launch} (hlt : l.stackTraces = false) {sa : Nat → Nat} {D : va_G} {q : Nat → Nat} {cI cD : ClassId} {rC : Int32} {fi fo fw : Nat → Int32} {fe : Nat → UInt64} {ft fr fp fl : Nat → Int32} {ff : Nat → UInt64} {n : Nat} (hn : 3 ≤ n ∧ n ≤ 6) {x : Int32} (hbad : armB n x = false) : vx_Met l yX0_requireArm wsX0_requireArm rxX0_requireArm (va_Pc [.ref (q 0), .int x] (xPre D (tys2 cI cD) (cW q cI cD (nI n) rC fi fo fw fe ft fr fp fl ff) sa)) (va_Qv (fun _ : Unit => False) (fun _ _ => True) (fun _ => False)) (xX eI) 1 6 (fun _ => False) := by
  refine xmet_intro (cc := cX0_requireArm) (maxL := 2) (ret := none) (own := RX0) (by decide) rfl rfl (Nat.le_of_ble_eq_true rfl) ?_
  intro pp ee ss mm args below meth cd Q ls hQ S hr hlocks hnt hv hB hl
  obtain ⟨hx, hb, hml, hown, hts⟩ := id S
  obtain ⟨⟨hP, hK⟩, hG⟩ := hB
  have in_w : ∀ w ∈ wsX00, w ∈ wsX0_requireArm := by decide +kernel
  have fl_46 : Cond.fieldLink RX0 46 RX0 (TX0 9).2.1 (TX0 9).2.2.1 ∈ wsX0_requireArm := by decide +kernel
  have hl : lv_has ls 2 [(0, .ref (q 0)), (1, .int x)] := hl
  refine lv_iload_n hx hb dX0_requireArm_0 rfl (lv_at hl 1 rfl) ?_
  refine lv_if_lt (tgt := 12) hx hb dX0_requireArm_1 (by decide) (fun h1_0 => ?_) (fun h1_0 => ?_)
  · subst hQ
    exact vx_throwS (own := RX0) (cls := eI) (text := "the arm does not exist") (names := eN) (ik := 152) (is := 154) (ic := 156) (A := fun _ => False) hx hb hlt hown (by decide +kernel) (by decide +kernel) (hts (.classLink RX0 152 eI) (by decide +kernel)) (hts (.initialized eI) (by decide +kernel)) hG.2.1.1 (vx_hat (L := vx_atS RX0 156 eI eN) (B := xWs) (fun w hw => hts w ((show ∀ w ∈ (vx_atS RX0 156 eI eN).filter goodWord, w ∈ wsX0_requireArm from by decide +kernel) w hw)) (by decide +kernel) (xW_use hG.2.2.1)) (by decide +kernel) hG.1.1 hG.1.2 va_S.rf (hl.1.trans hml.symm) dX0_requireArm_12 dX0_requireArm_15 dX0_requireArm_16 dX0_requireArm_18 dX0_requireArm_21 (fun x hx9 => (hnt x hx9).elim) (Nat.le_of_ble_eq_true rfl) (Nat.le_of_ble_eq_true rfl) (Nat.le_of_ble_eq_true rfl) (Nat.le_of_ble_eq_true rfl) hlocks (fun t _ h1 h2 => ⟨(), trivial, rfl, ⟨h1, fun q hq _ => h2 q hq⟩⟩) (fun z hz => absurd hz List.not_mem_nil) (Nat.le_refl _) (Nat.le_refl _)
  · refine lv_iload_n hx hb dX0_requireArm_4 rfl (lv_at hl 1 rfl) ?_
    refine lv_aload_n hx hb dX0_requireArm_5 rfl (lv_at hl 0 rfl) ?_
    refine w_getC (own := RX0) (v := .int (nI n)) S in_w hK hP rfl 9 (by decide) fl_46 rfl rfl dX0_requireArm_6 ?_
    refine lv_icmp_lt (tgt := 22) hx hb dX0_requireArm_9 (by decide) (fun h9_1 => absurd h9_1 (armB_f hn hbad h1_0)) (fun h9_1 => ?_)
    subst hQ
    exact vx_throwS (own := RX0) (cls := eI) (text := "the arm does not exist") (names := eN) (ik := 152) (is := 154) (ic := 156) (A := fun _ => False) hx hb hlt hown (by decide +kernel) (by decide +kernel) (hts (.classLink RX0 152 eI) (by decide +kernel)) (hts (.initialized eI) (by decide +kernel)) hG.2.1.1 (vx_hat (L := vx_atS RX0 156 eI eN) (B := xWs) (fun w hw => hts w ((show ∀ w ∈ (vx_atS RX0 156 eI eN).filter goodWord, w ∈ wsX0_requireArm from by decide +kernel) w hw)) (by decide +kernel) (xW_use hG.2.2.1)) (by decide +kernel) hG.1.1 hG.1.2 va_S.rf (hl.1.trans hml.symm) dX0_requireArm_12 dX0_requireArm_15 dX0_requireArm_16 dX0_requireArm_18 dX0_requireArm_21 (fun x hx9 => (hnt x hx9).elim) (Nat.le_of_ble_eq_true rfl) (Nat.le_of_ble_eq_true rfl) (Nat.le_of_ble_eq_true rfl) (Nat.le_of_ble_eq_true rfl) hlocks (fun t _ h1 h2 => ⟨(), trivial, rfl, ⟨h1, fun q hq _ => h2 q hq⟩⟩) (fun z hz => absurd hz List.not_mem_nil) (Nat.le_refl _) (Nat.le_refl _)
abbrev rxX0_requireWithin : Room := { frames := 6, cells := 1, slots := 6, locals := 90 }
set_option maxHeartbeats 4000000 in
set_option maxRecDepth 100000 in
theorem x_X0_requireWithin {l : Launch} (hlt : l.stackTraces = false) {sa : Nat → Nat} {v a b : Int32} (hbad : wth v a b = false) : vx_Met l yX0_requireWithin wsX0_requireWithin rxX0_requireWithin (va_Pc [.int v, .int a, .int b] (yPre sa)) (va_Qv (fun _ : Unit => False) (fun _ _ => True) (fun _ => False)) (xX eA) 1 6 (fun _ => False) := by
  refine xmet_intro (cc := cX0_requireWithin) (maxL := 3) (ret := none) (own := RX0) (by decide) rfl rfl (Nat.le_of_ble_eq_true rfl) ?_
  intro pp ee ss mm args below meth cd Q ls hQ S hr hlocks hnt hv hB hl
  obtain ⟨hx, hb, hml, hown, hts⟩ := id S
  have hG : xG sa ss ss.heap := hB
  have hl : lv_has ls 3 [(0, .int v), (1, .int a), (2, .int b)] := hl
  refine lv_iload_n hx hb dX0_requireWithin_0 rfl (lv_at hl 0 rfl) ?_
  refine lv_iload_n hx hb dX0_requireWithin_1 rfl (lv_at hl 1 rfl) ?_
  refine lv_icmp_lt (tgt := 10) hx hb dX0_requireWithin_2 (by decide) (fun h2_0 => ?_) (fun h2_0 => ?_)
  · subst hQ
    exact vx_throwS (own := RX0) (cls := eA) (text := "the argument is out of its range") (names := eN) (ik := 157) (is := 159) (ic := 161) (A := fun _ => False) hx hb hlt hown (by decide +kernel) (by decide +kernel) (hts (.classLink RX0 157 eA) (by decide +kernel)) (hts (.initialized eA) (by decide +kernel)) hG.2.1.2.1 (vx_hat (L := vx_atS RX0 161 eA eN) (B := xWs) (fun w hw => hts w ((show ∀ w ∈ (vx_atS RX0 161 eA eN).filter goodWord, w ∈ wsX0_requireWithin from by decide +kernel) w hw)) (by decide +kernel) (xW_use hG.2.2.1)) (by decide +kernel) hG.1.1 hG.1.2 va_S.rf (hl.1.trans hml.symm) dX0_requireWithin_10 dX0_requireWithin_13 dX0_requireWithin_14 dX0_requireWithin_16 dX0_requireWithin_19 (fun x hx9 => (hnt x hx9).elim) (Nat.le_of_ble_eq_true rfl) (Nat.le_of_ble_eq_true rfl) (Nat.le_of_ble_eq_true rfl) (Nat.le_of_ble_eq_true rfl) hlocks (fun t _ h1 h2 => ⟨(), trivial, rfl, ⟨h1, fun q hq _ => h2 q hq⟩⟩) (fun z hz => absurd hz List.not_mem_nil) (Nat.le_refl _) (Nat.le_refl _)
  · refine lv_iload_n hx hb dX0_requireWithin_5 rfl (lv_at hl 0 rfl) ?_
    refine lv_iload_n hx hb dX0_requireWithin_6 rfl (lv_at hl 2 rfl) ?_
    refine lv_icmp_le (tgt := 20) hx hb dX0_requireWithin_7 (by decide) (fun h7_1 => absurd h7_1 (wth_f hbad h2_0)) (fun h7_1 => ?_)
    subst hQ
    exact vx_throwS (own := RX0) (cls := eA) (text := "the argument is out of its range") (names := eN) (ik := 157) (is := 159) (ic := 161) (A := fun _ => False) hx hb hlt hown (by decide +kernel) (by decide +kernel) (hts (.classLink RX0 157 eA) (by decide +kernel)) (hts (.initialized eA) (by decide +kernel)) hG.2.1.2.1 (vx_hat (L := vx_atS RX0 161 eA eN) (B := xWs) (fun w hw => hts w ((show ∀ w ∈ (vx_atS RX0 161 eA eN).filter goodWord, w ∈ wsX0_requireWithin from by decide +kernel) w hw)) (by decide +kernel) (xW_use hG.2.2.1)) (by decide +kernel) hG.1.1 hG.1.2 va_S.rf (hl.1.trans hml.symm) dX0_requireWithin_10 dX0_requireWithin_13 dX0_requireWithin_14 dX0_requireWithin_16 dX0_requireWithin_19 (fun x hx9 => (hnt x hx9).elim) (Nat.le_of_ble_eq_true rfl) (Nat.le_of_ble_eq_true rfl) (Nat.le_of_ble_eq_true rfl) (Nat.le_of_ble_eq_true rfl) hlocks (fun t _ h1 h2 => ⟨(), trivial, rfl, ⟨h1, fun q hq _ => h2 q hq⟩⟩) (fun z hz => absurd hz List.not_mem_nil) (Nat.le_refl _) (Nat.le_refl _)
abbrev rxX0_requireScalable : Room := { frames := 6, cells := 1, slots := 6, locals := 90 }
set_option maxHeartbeats 4000000 in
set_option maxRecDepth 100000 in
theorem x_X0_requireScalable {l : Launch} (hlt : l.stackTraces = false) {sa : Nat → Nat} {a b : Int32} (hbad : ¬ scl a b ≤ nI 9999) : vx_Met l yX0_requireScalable wsX0_requireScalable rxX0_requireScalable (va_Pc [.int a, .int b] (yPre sa)) (va_Qv (fun _ : Unit => False) (fun _ _ => True) (fun _ => False)) (xX eS) 1 6 (fun _ => False) := by
  refine xmet_intro (cc := cX0_requireScalable) (maxL := 2) (ret := none) (own := RX0) (by decide) rfl rfl (Nat.le_of_ble_eq_true rfl) ?_
  intro pp ee ss mm args below meth cd Q ls hQ S hr hlocks hnt hv hB hl
  obtain ⟨hx, hb, hml, hown, hts⟩ := id S
  have hG : xG sa ss ss.heap := hB
  have hl : lv_has ls 2 [(0, .int a), (1, .int b)] := hl
  refine lv_iload_n hx hb dX0_requireScalable_0 rfl (lv_at hl 0 rfl) ?_
  refine lv_iload_n hx hb dX0_requireScalable_1 rfl (lv_at hl 1 rfl) ?_
  refine vp_callSi (W.runS (As := [.int a, .int b]) (rest := []) S (c_X0_scaled (a := a) (b := b)) (va_cwS 2 hts gX0_requireScalable_X0_scaled rfl rfl rfl hdX0_scaled ⟨Nat.le_of_ble_eq_true rfl, Nat.le_of_ble_eq_true rfl⟩) preS rfl rfl hl.1 rfl (lv_room (Nat.le_of_ble_eq_true rfl)) dX0_requireScalable_2 ⟨Nat.zero_le _, Nat.zero_le _⟩) (fun r_1 er_1 => ?_)
  subst er_1
  refine lv_sipush (v := nI 9999) hx hb dX0_requireScalable_5 (by decide) ?_
  refine lv_icmp_le (tgt := 21) hx hb dX0_requireScalable_8 (by decide) (fun h8_0 => absurd h8_0 hbad) (fun h8_0 => ?_)
  subst hQ
  exact vx_throwS (own := RX0) (cls := eS) (text := "a count would become greater than 9999") (names := eN) (ik := 162) (is := 164) (ic := 166) (A := fun _ => False) hx hb hlt hown (by decide +kernel) (by decide +kernel) (hts (.classLink RX0 162 eS) (by decide +kernel)) (hts (.initialized eS) (by decide +kernel)) hG.2.1.2.2.1 (vx_hat (L := vx_atS RX0 166 eS eN) (B := xWs) (fun w hw => hts w ((show ∀ w ∈ (vx_atS RX0 166 eS eN).filter goodWord, w ∈ wsX0_requireScalable from by decide +kernel) w hw)) (by decide +kernel) (xW_use hG.2.2.1)) (by decide +kernel) hG.1.1 hG.1.2 va_S.rf (hl.1.trans hml.symm) dX0_requireScalable_11 dX0_requireScalable_14 dX0_requireScalable_15 dX0_requireScalable_17 dX0_requireScalable_20 (fun x hx9 => (hnt x hx9).elim) (Nat.le_of_ble_eq_true rfl) (Nat.le_of_ble_eq_true rfl) (Nat.le_of_ble_eq_true rfl) (Nat.le_of_ble_eq_true rfl) hlocks (fun t _ h1 h2 => ⟨(), trivial, rfl, ⟨h1, fun q hq _ => h2 q hq⟩⟩) (fun z hz => absurd hz List.not_mem_nil) (Nat.le_refl _) (Nat.le_refl _)
abbrev rxX0_setArms : Room := { frames := 7, cells := 1, slots := 6, locals := 112 }
set_option maxHeartbeats 4000000 in
set_option maxRecDepth 100000 in
theorem x_X0_setArms {l : Launch} (hlt : l.stackTraces = false) {sa : Nat → Nat} {D : va_G} {q : Nat → Nat} {cI cD : ClassId} {rC : Int32} {fi fo fw : Nat → Int32} {fe : Nat → UInt64} {ft fr fp fl : Nat → Int32} {ff : Nat → UInt64} {n : Nat} {x : Int32} (hbad : wth x (nI 3) (nI 6) = false) : vx_Met l yX0_setArms wsX0_setArms rxX0_setArms (va_Pc [.ref (q 0), .int x] (xPre D (tys2 cI cD) (cW q cI cD (nI n) rC fi fo fw fe ft fr fp fl ff) sa)) (va_Qi (fun _ (_ : Unit) => False) (fun _ _ => True) (fun _ => False)) (xX eA) 1 6 (fun _ => False) := by
  refine xmet_intro (cc := cX0_setArms) (maxL := 3) (ret := (some .int)) (own := RX0) (by decide) rfl rfl (Nat.le_of_ble_eq_true rfl) ?_
  intro pp ee ss mm args below meth cd Q ls hQ S hr hlocks hnt hv hB hl
  obtain ⟨hx, hb, hml, hown, hts⟩ := id S
  obtain ⟨⟨hP, hK⟩, hG⟩ := hB
  have hl : lv_has ls 3 [(0, .ref (q 0)), (1, .int x)] := hl
  refine lv_iload_n hx hb dX0_setArms_0 rfl (lv_at hl 1 rfl) ?_
  refine lv_iconst (v := nI 3) hx hb dX0_setArms_1 (by decide) ?_
  refine lv_bipush (v := nI 6) hx hb dX0_setArms_2 (by decide) ?_
  refine vx_callv (vx_runS (As := [.int x, .int (nI 3), .int (nI 6)]) (rest := []) S (x_X0_requireWithin hlt hbad) (va_cwS 3 hts gX0_setArms_X0_requireWithin rfl rfl rfl hdX0_requireWithin ⟨Nat.le_of_ble_eq_true rfl, Nat.le_of_ble_eq_true rfl⟩) (preY hG) rfl rfl hl.1 rfl (lv_room (Nat.le_of_ble_eq_true rfl)) dX0_setArms_4 ⟨Nat.le_of_ble_eq_true rfl, Nat.le_of_ble_eq_true rfl⟩) (va_S.rf (A := fun _ => False)) (fun _ _ h => h) (fun _ h => h) (fun _ _ h => h) (fun E ce q9 u t H1 locs1 ht hvm hpx hBX hz hk9 hS1 hcell hcv hcl => ?_) (fun u t H1 locs1 ht hvm hw _ _ _ _ => absurd hw id)
  subst hQ
  exact vx_out (fun x hx9 => (hnt x hx9).elim) hlocks hcell hcv hcl (fun t2 ht2 _ => ⟨(), trivial, hBX, hS1.F ht2⟩) hS1.2.2 (Nat.le_refl _) (Nat.le_refl _)
abbrev rxX0_setCount1 : Room := { frames := 7, cells := 1, slots := 6, locals := 111 }
set_option maxHeartbeats 4000000 in
set_option maxRecDepth 100000 in
theorem x_X0_setCount1 {l : Launch} (hlt : l.stackTraces = false) {sa : Nat → Nat} {D : va_G} {q : Nat → Nat} {cI cD : ClassId} {rC : Int32} {fi fo fw : Nat → Int32} {fe : Nat → UInt64} {ft fr fp fl : Nat → Int32} {ff : Nat → UInt64} {n : Nat} (hn : 3 ≤ n ∧ n ≤ 6) {aa : Nat} {x y : Int32} (hbad : armB n y = false) : vx_Met l yX0_setCount wsX0_setCount rxX0_setCount1 (va_Pc [.ref (q 0), .ref aa, .int y, .int x] (xPre D (tys2 cI cD) (cW q cI cD (nI n) rC fi fo fw fe ft fr fp fl ff) sa)) (va_Qi (fun _ (_ : Unit) => False) (fun _ _ => True) (fun _ => False)) (xX eI) 1 6 (fun _ => False) := by
  refine xmet_intro (cc := cX0_setCount) (maxL := 5) (ret := (some .int)) (own := RX0) (by decide) rfl rfl (Nat.le_of_ble_eq_true rfl) ?_
  intro pp ee ss mm args below meth cd Q ls hQ S hr hlocks hnt hv hB hl
  obtain ⟨hx, hb, hml, hown, hts⟩ := id S
  obtain ⟨⟨hP, hK⟩, hG⟩ := hB
  have hl : lv_has ls 5 [(0, .ref (q 0)), (1, .ref aa), (2, .int y), (3, .int x)] := hl
  refine lv_aload_n hx hb dX0_setCount_0 rfl (lv_at hl 0 rfl) ?_
  refine lv_iload_n hx hb dX0_setCount_1 rfl (lv_at hl 2 rfl) ?_
  refine vx_callv (vx_runV (As := [.int y]) (rest := []) S (x_X0_requireArm hlt hn hbad) (cwV 1 hts gX0_setCount_X0_requireArm rfl rfl rfl hdX0_requireArm ⟨Nat.le_of_ble_eq_true rfl, Nat.le_of_ble_eq_true rfl⟩) (preX hK hP hG rfl rfl) rfl rfl hl.1 rfl (lv_room (Nat.le_of_ble_eq_true rfl)) dX0_setCount_2 ⟨Nat.le_of_ble_eq_true rfl, Nat.le_of_ble_eq_true rfl⟩) (va_S.rf (A := fun _ => False)) (fun _ _ h => h) (fun _ h => h) (fun _ _ h => h) (fun E ce q9 u t H1 locs1 ht hvm hpx hBX hz hk9 hS1 hcell hcv hcl => ?_) (fun u t H1 locs1 ht hvm hw _ _ _ _ => absurd hw id)
  subst hQ
  exact vx_out (fun x hx9 => (hnt x hx9).elim) hlocks hcell hcv hcl (fun t2 ht2 _ => ⟨(), trivial, hBX, hS1.F ht2⟩) hS1.2.2 (Nat.le_refl _) (Nat.le_refl _)
abbrev rxX0_setCount2 : Room := { frames := 7, cells := 1, slots := 6, locals := 112 }
set_option maxHeartbeats 4000000 in
set_option maxRecDepth 100000 in
theorem x_X0_setCount2 {l : Launch} (hlt : l.stackTraces = false) {sa : Nat → Nat} {D : va_G} {q : Nat → Nat} {cI cD : ClassId} {rC : Int32} {fi fo fw : Nat → Int32} {fe : Nat → UInt64} {ft fr fp fl : Nat → Int32} {ff : Nat → UInt64} {n : Nat} (hn : 3 ≤ n ∧ n ≤ 6) {aa i : Nat} {x : Int32} (hi : i < n) (hbad : wth x (nI 0) (nI 9999) = false) : vx_Met l yX0_setCount wsX0_setCount rxX0_setCount2 (va_Pc [.ref (q 0), .ref aa, .int (nI i), .int x] (xPre D (tys2 cI cD) (cW q cI cD (nI n) rC fi fo fw fe ft fr fp fl ff) sa)) (va_Qi (fun _ (_ : Unit) => False) (fun _ _ => True) (fun _ => False)) (xX eA) 1 6 (fun _ => False) := by
  refine xmet_intro (cc := cX0_setCount) (maxL := 5) (ret := (some .int)) (own := RX0) (by decide) rfl rfl (Nat.le_of_ble_eq_true rfl) ?_
  intro pp ee ss mm args below meth cd Q ls hQ S hr hlocks hnt hv hB hl
  obtain ⟨hx, hb, hml, hown, hts⟩ := id S
  obtain ⟨⟨hP, hK⟩, hG⟩ := hB
  have hl : lv_has ls 5 [(0, .ref (q 0)), (1, .ref aa), (2, .int (nI i)), (3, .int x)] := hl
  refine lv_aload_n hx hb dX0_setCount_0 rfl (lv_at hl 0 rfl) ?_
  refine lv_iload_n hx hb dX0_setCount_1 rfl (lv_at hl 2 rfl) ?_
  refine va_csv (W.runV (As := [.int (nI i)]) (rest := []) S (c_X0_requireArm hn (i := i) (by omega)) (cwV 1 hts gX0_setCount_X0_requireArm rfl rfl rfl hdX0_requireArm ⟨Nat.le_of_ble_eq_true rfl, Nat.le_of_ble_eq_true rfl⟩) (preV hK hP rfl rfl) rfl rfl hl.1 rfl (lv_room (Nat.le_of_ble_eq_true rfl)) dX0_setCount_2 ⟨Nat.zero_le _, Nat.zero_le _⟩) (fun _ => ?_)
  refine lv_iload_n hx hb dX0_setCount_5 rfl (lv_at hl 3 rfl) ?_
  refine lv_iconst (v := nI 0) hx hb dX0_setCount_6 (by decide) ?_
  refine lv_sipush (v := nI 9999) hx hb dX0_setCount_7 (by decide) ?_
  refine vx_callv (vx_runS (As := [.int x, .int (nI 0), .int (nI 9999)]) (rest := []) S (x_X0_requireWithin hlt hbad) (va_cwS 3 hts gX0_setCount_X0_requireWithin rfl rfl rfl hdX0_requireWithin ⟨Nat.le_of_ble_eq_true rfl, Nat.le_of_ble_eq_true rfl⟩) (preY hG) rfl rfl hl.1 rfl (lv_room (Nat.le_of_ble_eq_true rfl)) dX0_setCount_10 ⟨Nat.le_of_ble_eq_true rfl, Nat.le_of_ble_eq_true rfl⟩) (va_S.rf (A := fun _ => False)) (fun _ _ h => h) (fun _ h => h) (fun _ _ h => h) (fun E ce q9 u t H1 locs1 ht hvm hpx hBX hz hk9 hS1 hcell hcv hcl => ?_) (fun u t H1 locs1 ht hvm hw _ _ _ _ => absurd hw id)
  subst hQ
  exact vx_out (fun x hx9 => (hnt x hx9).elim) hlocks hcell hcv hcl (fun t2 ht2 _ => ⟨(), trivial, hBX, hS1.F ht2⟩) hS1.2.2 (Nat.le_refl _) (Nat.le_refl _)
abbrev rxX0_setInflow1 : Room := { frames := 8, cells := 1, slots := 6, locals := 135 }
set_option maxHeartbeats 4000000 in
set_option maxRecDepth 100000 in
theorem x_X0_setInflow1 {l : Launch} (hlt : l.stackTraces = false) {sa : Nat → Nat} {D : va_G} {q : Nat → Nat} {cI cD : ClassId} {rC : Int32} {fi fo fw : Nat → Int32} {fe : Nat → UInt64} {ft fr fp fl : Nat → Int32} {ff : Nat → UInt64} {n : Nat} (hn : 3 ≤ n ∧ n ≤ 6) {x y : Int32} (hbad : armB n y = false) : vx_Met l yX0_setInflow wsX0_setInflow rxX0_setInflow1 (va_Pc [.ref (q 0), .int y, .int x] (xPre D (tys2 cI cD) (cW q cI cD (nI n) rC fi fo fw fe ft fr fp fl ff) sa)) (va_Qi (fun _ (_ : Unit) => False) (fun _ _ => True) (fun _ => False)) (xX eI) 1 6 (fun _ => False) := by
  refine xmet_intro (cc := cX0_setInflow) (maxL := 3) (ret := (some .int)) (own := RX0) (by decide) rfl rfl (Nat.le_of_ble_eq_true rfl) ?_
  intro pp ee ss mm args below meth cd Q ls hQ S hr hlocks hnt hv hB hl
  obtain ⟨hx, hb, hml, hown, hts⟩ := id S
  obtain ⟨⟨hP, hK⟩, hG⟩ := hB
  have in_w : ∀ w ∈ wsX00, w ∈ wsX0_setInflow := by decide +kernel
  have fl_9 : Cond.fieldLink RX0 9 RX0 (TX0 0).2.1 (TX0 0).2.2.1 ∈ wsX0_setInflow := by decide +kernel
  have hl : lv_has ls 3 [(0, .ref (q 0)), (1, .int y), (2, .int x)] := hl
  refine lv_aload_n hx hb dX0_setInflow_0 rfl (lv_at hl 0 rfl) ?_
  refine lv_aload_n hx hb dX0_setInflow_1 rfl (lv_at hl 0 rfl) ?_
  refine w_getC (own := RX0) (v := .ref (q 1)) S in_w hK hP rfl 0 (by decide) fl_9 rfl rfl dX0_setInflow_2 ?_
  refine lv_iload_n hx hb dX0_setInflow_5 rfl (lv_at hl 1 rfl) ?_
  refine lv_iload_n hx hb dX0_setInflow_6 rfl (lv_at hl 2 rfl) ?_
  refine vx_calli (vx_runV (As := [.ref (q 1), .int y, .int x]) (rest := []) S (x_X0_setCount1 hlt hn hbad) (cwV 3 hts gX0_setInflow_X0_setCount rfl rfl rfl hdX0_setCount ⟨Nat.le_of_ble_eq_true rfl, Nat.le_of_ble_eq_true rfl⟩) (preX hK hP hG rfl rfl) rfl rfl hl.1 rfl (lv_room (Nat.le_of_ble_eq_true rfl)) dX0_setInflow_7 ⟨Nat.le_of_ble_eq_true rfl, Nat.le_of_ble_eq_true rfl⟩) (va_S.rf (A := fun _ => False)) (fun _ _ h => h) (fun _ h => h) (fun _ _ h => h) (fun E ce q9 u t H1 locs1 ht hvm hpx hBX hz hk9 hS1 hcell hcv hcl => ?_) (fun r u t H1 locs1 ht hvm hw _ _ _ _ => absurd hw id)
  subst hQ
  exact vx_out (fun x hx9 => (hnt x hx9).elim) hlocks hcell hcv hcl (fun t2 ht2 _ => ⟨(), trivial, hBX, hS1.F ht2⟩) hS1.2.2 (Nat.le_refl _) (Nat.le_refl _)
abbrev rxX0_setInflow2 : Room := { frames := 8, cells := 1, slots := 6, locals := 136 }
set_option maxHeartbeats 4000000 in
set_option maxRecDepth 100000 in
theorem x_X0_setInflow2 {l : Launch} (hlt : l.stackTraces = false) {sa : Nat → Nat} {D : va_G} {q : Nat → Nat} {cI cD : ClassId} {rC : Int32} {fi fo fw : Nat → Int32} {fe : Nat → UInt64} {ft fr fp fl : Nat → Int32} {ff : Nat → UInt64} {n : Nat} (hn : 3 ≤ n ∧ n ≤ 6) {i : Nat} {x : Int32} (hi : i < n) (hbad : wth x (nI 0) (nI 9999) = false) : vx_Met l yX0_setInflow wsX0_setInflow rxX0_setInflow2 (va_Pc [.ref (q 0), .int (nI i), .int x] (xPre D (tys2 cI cD) (cW q cI cD (nI n) rC fi fo fw fe ft fr fp fl ff) sa)) (va_Qi (fun _ (_ : Unit) => False) (fun _ _ => True) (fun _ => False)) (xX eA) 1 6 (fun _ => False) := by
  refine xmet_intro (cc := cX0_setInflow) (maxL := 3) (ret := (some .int)) (own := RX0) (by decide) rfl rfl (Nat.le_of_ble_eq_true rfl) ?_
  intro pp ee ss mm args below meth cd Q ls hQ S hr hlocks hnt hv hB hl
  obtain ⟨hx, hb, hml, hown, hts⟩ := id S
  obtain ⟨⟨hP, hK⟩, hG⟩ := hB
  have in_w : ∀ w ∈ wsX00, w ∈ wsX0_setInflow := by decide +kernel
  have fl_9 : Cond.fieldLink RX0 9 RX0 (TX0 0).2.1 (TX0 0).2.2.1 ∈ wsX0_setInflow := by decide +kernel
  have hl : lv_has ls 3 [(0, .ref (q 0)), (1, .int (nI i)), (2, .int x)] := hl
  refine lv_aload_n hx hb dX0_setInflow_0 rfl (lv_at hl 0 rfl) ?_
  refine lv_aload_n hx hb dX0_setInflow_1 rfl (lv_at hl 0 rfl) ?_
  refine w_getC (own := RX0) (v := .ref (q 1)) S in_w hK hP rfl 0 (by decide) fl_9 rfl rfl dX0_setInflow_2 ?_
  refine lv_iload_n hx hb dX0_setInflow_5 rfl (lv_at hl 1 rfl) ?_
  refine lv_iload_n hx hb dX0_setInflow_6 rfl (lv_at hl 2 rfl) ?_
  refine vx_calli (vx_runV (As := [.ref (q 1), .int (nI i), .int x]) (rest := []) S (x_X0_setCount2 hlt hn hi hbad) (cwV 3 hts gX0_setInflow_X0_setCount rfl rfl rfl hdX0_setCount ⟨Nat.le_of_ble_eq_true rfl, Nat.le_of_ble_eq_true rfl⟩) (preX hK hP hG rfl rfl) rfl rfl hl.1 rfl (lv_room (Nat.le_of_ble_eq_true rfl)) dX0_setInflow_7 ⟨Nat.le_of_ble_eq_true rfl, Nat.le_of_ble_eq_true rfl⟩) (va_S.rf (A := fun _ => False)) (fun _ _ h => h) (fun _ h => h) (fun _ _ h => h) (fun E ce q9 u t H1 locs1 ht hvm hpx hBX hz hk9 hS1 hcell hcv hcl => ?_) (fun r u t H1 locs1 ht hvm hw _ _ _ _ => absurd hw id)
  subst hQ
  exact vx_out (fun x hx9 => (hnt x hx9).elim) hlocks hcell hcv hcl (fun t2 ht2 _ => ⟨(), trivial, hBX, hS1.F ht2⟩) hS1.2.2 (Nat.le_refl _) (Nat.le_refl _)
abbrev rxX0_setOutflow1 : Room := { frames := 8, cells := 1, slots := 6, locals := 135 }
set_option maxHeartbeats 4000000 in
set_option maxRecDepth 100000 in
theorem x_X0_setOutflow1 {l : Launch} (hlt : l.stackTraces = false) {sa : Nat → Nat} {D : va_G} {q : Nat → Nat} {cI cD : ClassId} {rC : Int32} {fi fo fw : Nat → Int32} {fe : Nat → UInt64} {ft fr fp fl : Nat → Int32} {ff : Nat → UInt64} {n : Nat} (hn : 3 ≤ n ∧ n ≤ 6) {x y : Int32} (hbad : armB n y = false) : vx_Met l yX0_setOutflow wsX0_setOutflow rxX0_setOutflow1 (va_Pc [.ref (q 0), .int y, .int x] (xPre D (tys2 cI cD) (cW q cI cD (nI n) rC fi fo fw fe ft fr fp fl ff) sa)) (va_Qi (fun _ (_ : Unit) => False) (fun _ _ => True) (fun _ => False)) (xX eI) 1 6 (fun _ => False) := by
  refine xmet_intro (cc := cX0_setOutflow) (maxL := 3) (ret := (some .int)) (own := RX0) (by decide) rfl rfl (Nat.le_of_ble_eq_true rfl) ?_
  intro pp ee ss mm args below meth cd Q ls hQ S hr hlocks hnt hv hB hl
  obtain ⟨hx, hb, hml, hown, hts⟩ := id S
  obtain ⟨⟨hP, hK⟩, hG⟩ := hB
  have in_w : ∀ w ∈ wsX00, w ∈ wsX0_setOutflow := by decide +kernel
  have fl_13 : Cond.fieldLink RX0 13 RX0 (TX0 1).2.1 (TX0 1).2.2.1 ∈ wsX0_setOutflow := by decide +kernel
  have hl : lv_has ls 3 [(0, .ref (q 0)), (1, .int y), (2, .int x)] := hl
  refine lv_aload_n hx hb dX0_setOutflow_0 rfl (lv_at hl 0 rfl) ?_
  refine lv_aload_n hx hb dX0_setOutflow_1 rfl (lv_at hl 0 rfl) ?_
  refine w_getC (own := RX0) (v := .ref (q 2)) S in_w hK hP rfl 1 (by decide) fl_13 rfl rfl dX0_setOutflow_2 ?_
  refine lv_iload_n hx hb dX0_setOutflow_5 rfl (lv_at hl 1 rfl) ?_
  refine lv_iload_n hx hb dX0_setOutflow_6 rfl (lv_at hl 2 rfl) ?_
  refine vx_calli (vx_runV (As := [.ref (q 2), .int y, .int x]) (rest := []) S (x_X0_setCount1 hlt hn hbad) (cwV 3 hts gX0_setOutflow_X0_setCount rfl rfl rfl hdX0_setCount ⟨Nat.le_of_ble_eq_true rfl, Nat.le_of_ble_eq_true rfl⟩) (preX hK hP hG rfl rfl) rfl rfl hl.1 rfl (lv_room (Nat.le_of_ble_eq_true rfl)) dX0_setOutflow_7 ⟨Nat.le_of_ble_eq_true rfl, Nat.le_of_ble_eq_true rfl⟩) (va_S.rf (A := fun _ => False)) (fun _ _ h => h) (fun _ h => h) (fun _ _ h => h) (fun E ce q9 u t H1 locs1 ht hvm hpx hBX hz hk9 hS1 hcell hcv hcl => ?_) (fun r u t H1 locs1 ht hvm hw _ _ _ _ => absurd hw id)
  subst hQ
  exact vx_out (fun x hx9 => (hnt x hx9).elim) hlocks hcell hcv hcl (fun t2 ht2 _ => ⟨(), trivial, hBX, hS1.F ht2⟩) hS1.2.2 (Nat.le_refl _) (Nat.le_refl _)
abbrev rxX0_setOutflow2 : Room := { frames := 8, cells := 1, slots := 6, locals := 136 }
set_option maxHeartbeats 4000000 in
set_option maxRecDepth 100000 in
theorem x_X0_setOutflow2 {l : Launch} (hlt : l.stackTraces = false) {sa : Nat → Nat} {D : va_G} {q : Nat → Nat} {cI cD : ClassId} {rC : Int32} {fi fo fw : Nat → Int32} {fe : Nat → UInt64} {ft fr fp fl : Nat → Int32} {ff : Nat → UInt64} {n : Nat} (hn : 3 ≤ n ∧ n ≤ 6) {i : Nat} {x : Int32} (hi : i < n) (hbad : wth x (nI 0) (nI 9999) = false) : vx_Met l yX0_setOutflow wsX0_setOutflow rxX0_setOutflow2 (va_Pc [.ref (q 0), .int (nI i), .int x] (xPre D (tys2 cI cD) (cW q cI cD (nI n) rC fi fo fw fe ft fr fp fl ff) sa)) (va_Qi (fun _ (_ : Unit) => False) (fun _ _ => True) (fun _ => False)) (xX eA) 1 6 (fun _ => False) := by
  refine xmet_intro (cc := cX0_setOutflow) (maxL := 3) (ret := (some .int)) (own := RX0) (by decide) rfl rfl (Nat.le_of_ble_eq_true rfl) ?_
  intro pp ee ss mm args below meth cd Q ls hQ S hr hlocks hnt hv hB hl
  obtain ⟨hx, hb, hml, hown, hts⟩ := id S
  obtain ⟨⟨hP, hK⟩, hG⟩ := hB
  have in_w : ∀ w ∈ wsX00, w ∈ wsX0_setOutflow := by decide +kernel
  have fl_13 : Cond.fieldLink RX0 13 RX0 (TX0 1).2.1 (TX0 1).2.2.1 ∈ wsX0_setOutflow := by decide +kernel
  have hl : lv_has ls 3 [(0, .ref (q 0)), (1, .int (nI i)), (2, .int x)] := hl
  refine lv_aload_n hx hb dX0_setOutflow_0 rfl (lv_at hl 0 rfl) ?_
  refine lv_aload_n hx hb dX0_setOutflow_1 rfl (lv_at hl 0 rfl) ?_
  refine w_getC (own := RX0) (v := .ref (q 2)) S in_w hK hP rfl 1 (by decide) fl_13 rfl rfl dX0_setOutflow_2 ?_
  refine lv_iload_n hx hb dX0_setOutflow_5 rfl (lv_at hl 1 rfl) ?_
  refine lv_iload_n hx hb dX0_setOutflow_6 rfl (lv_at hl 2 rfl) ?_
  refine vx_calli (vx_runV (As := [.ref (q 2), .int (nI i), .int x]) (rest := []) S (x_X0_setCount2 hlt hn hi hbad) (cwV 3 hts gX0_setOutflow_X0_setCount rfl rfl rfl hdX0_setCount ⟨Nat.le_of_ble_eq_true rfl, Nat.le_of_ble_eq_true rfl⟩) (preX hK hP hG rfl rfl) rfl rfl hl.1 rfl (lv_room (Nat.le_of_ble_eq_true rfl)) dX0_setOutflow_7 ⟨Nat.le_of_ble_eq_true rfl, Nat.le_of_ble_eq_true rfl⟩) (va_S.rf (A := fun _ => False)) (fun _ _ h => h) (fun _ h => h) (fun _ _ h => h) (fun E ce q9 u t H1 locs1 ht hvm hpx hBX hz hk9 hS1 hcell hcv hcl => ?_) (fun r u t H1 locs1 ht hvm hw _ _ _ _ => absurd hw id)
  subst hQ
  exact vx_out (fun x hx9 => (hnt x hx9).elim) hlocks hcell hcv hcl (fun t2 ht2 _ => ⟨(), trivial, hBX, hS1.F ht2⟩) hS1.2.2 (Nat.le_refl _) (Nat.le_refl _)
abbrev rxX0_setWeight1 : Room := { frames := 7, cells := 1, slots := 6, locals := 111 }
set_option maxHeartbeats 4000000 in
set_option maxRecDepth 100000 in
theorem x_X0_setWeight1 {l : Launch} (hlt : l.stackTraces = false) {sa : Nat → Nat} {D : va_G} {q : Nat → Nat} {cI cD : ClassId} {rC : Int32} {fi fo fw : Nat → Int32} {fe : Nat → UInt64} {ft fr fp fl : Nat → Int32} {ff : Nat → UInt64} {n : Nat} (hn : 3 ≤ n ∧ n ≤ 6) {x y z : Int32} (hbad : armB n y = false) : vx_Met l yX0_setWeight wsX0_setWeight rxX0_setWeight1 (va_Pc [.ref (q 0), .int y, .int z, .int x] (xPre D (tys2 cI cD) (cW q cI cD (nI n) rC fi fo fw fe ft fr fp fl ff) sa)) (va_Qi (fun _ (_ : Unit) => False) (fun _ _ => True) (fun _ => False)) (xX eI) 1 6 (fun _ => False) := by
  refine xmet_intro (cc := cX0_setWeight) (maxL := 5) (ret := (some .int)) (own := RX0) (by decide) rfl rfl (Nat.le_of_ble_eq_true rfl) ?_
  intro pp ee ss mm args below meth cd Q ls hQ S hr hlocks hnt hv hB hl
  obtain ⟨hx, hb, hml, hown, hts⟩ := id S
  obtain ⟨⟨hP, hK⟩, hG⟩ := hB
  have hl : lv_has ls 5 [(0, .ref (q 0)), (1, .int y), (2, .int z), (3, .int x)] := hl
  refine lv_aload_n hx hb dX0_setWeight_0 rfl (lv_at hl 0 rfl) ?_
  refine lv_iload_n hx hb dX0_setWeight_1 rfl (lv_at hl 1 rfl) ?_
  refine vx_callv (vx_runV (As := [.int y]) (rest := []) S (x_X0_requireArm hlt hn hbad) (cwV 1 hts gX0_setWeight_X0_requireArm rfl rfl rfl hdX0_requireArm ⟨Nat.le_of_ble_eq_true rfl, Nat.le_of_ble_eq_true rfl⟩) (preX hK hP hG rfl rfl) rfl rfl hl.1 rfl (lv_room (Nat.le_of_ble_eq_true rfl)) dX0_setWeight_2 ⟨Nat.le_of_ble_eq_true rfl, Nat.le_of_ble_eq_true rfl⟩) (va_S.rf (A := fun _ => False)) (fun _ _ h => h) (fun _ h => h) (fun _ _ h => h) (fun E ce q9 u t H1 locs1 ht hvm hpx hBX hz hk9 hS1 hcell hcv hcl => ?_) (fun u t H1 locs1 ht hvm hw _ _ _ _ => absurd hw id)
  subst hQ
  exact vx_out (fun x hx9 => (hnt x hx9).elim) hlocks hcell hcv hcl (fun t2 ht2 _ => ⟨(), trivial, hBX, hS1.F ht2⟩) hS1.2.2 (Nat.le_refl _) (Nat.le_refl _)
abbrev rxX0_setWeight2 : Room := { frames := 7, cells := 1, slots := 6, locals := 111 }
set_option maxHeartbeats 4000000 in
set_option maxRecDepth 100000 in
theorem x_X0_setWeight2 {l : Launch} (hlt : l.stackTraces = false) {sa : Nat → Nat} {D : va_G} {q : Nat → Nat} {cI cD : ClassId} {rC : Int32} {fi fo fw : Nat → Int32} {fe : Nat → UInt64} {ft fr fp fl : Nat → Int32} {ff : Nat → UInt64} {n : Nat} (hn : 3 ≤ n ∧ n ≤ 6) {i : Nat} {x z : Int32} (hi : i < n) (hbad : armB n z = false) : vx_Met l yX0_setWeight wsX0_setWeight rxX0_setWeight2 (va_Pc [.ref (q 0), .int (nI i), .int z, .int x] (xPre D (tys2 cI cD) (cW q cI cD (nI n) rC fi fo fw fe ft fr fp fl ff) sa)) (va_Qi (fun _ (_ : Unit) => False) (fun _ _ => True) (fun _ => False)) (xX eI) 1 6 (fun _ => False) := by
  refine xmet_intro (cc := cX0_setWeight) (maxL := 5) (ret := (some .int)) (own := RX0) (by decide) rfl rfl (Nat.le_of_ble_eq_true rfl) ?_
  intro pp ee ss mm args below meth cd Q ls hQ S hr hlocks hnt hv hB hl
  obtain ⟨hx, hb, hml, hown, hts⟩ := id S
  obtain ⟨⟨hP, hK⟩, hG⟩ := hB
  have hl : lv_has ls 5 [(0, .ref (q 0)), (1, .int (nI i)), (2, .int z), (3, .int x)] := hl
  refine lv_aload_n hx hb dX0_setWeight_0 rfl (lv_at hl 0 rfl) ?_
  refine lv_iload_n hx hb dX0_setWeight_1 rfl (lv_at hl 1 rfl) ?_
  refine va_csv (W.runV (As := [.int (nI i)]) (rest := []) S (c_X0_requireArm hn (i := i) (by omega)) (cwV 1 hts gX0_setWeight_X0_requireArm rfl rfl rfl hdX0_requireArm ⟨Nat.le_of_ble_eq_true rfl, Nat.le_of_ble_eq_true rfl⟩) (preV hK hP rfl rfl) rfl rfl hl.1 rfl (lv_room (Nat.le_of_ble_eq_true rfl)) dX0_setWeight_2 ⟨Nat.zero_le _, Nat.zero_le _⟩) (fun _ => ?_)
  refine lv_aload_n hx hb dX0_setWeight_5 rfl (lv_at hl 0 rfl) ?_
  refine lv_iload_n hx hb dX0_setWeight_6 rfl (lv_at hl 2 rfl) ?_
  refine vx_callv (vx_runV (As := [.int z]) (rest := []) S (x_X0_requireArm hlt hn hbad) (cwV 1 hts gX0_setWeight_X0_requireArm rfl rfl rfl hdX0_requireArm ⟨Nat.le_of_ble_eq_true rfl, Nat.le_of_ble_eq_true rfl⟩) (preX hK hP hG rfl rfl) rfl rfl hl.1 rfl (lv_room (Nat.le_of_ble_eq_true rfl)) dX0_setWeight_7 ⟨Nat.le_of_ble_eq_true rfl, Nat.le_of_ble_eq_true rfl⟩) (va_S.rf (A := fun _ => False)) (fun _ _ h => h) (fun _ h => h) (fun _ _ h => h) (fun E ce q9 u t H1 locs1 ht hvm hpx hBX hz hk9 hS1 hcell hcv hcl => ?_) (fun u t H1 locs1 ht hvm hw _ _ _ _ => absurd hw id)
  subst hQ
  exact vx_out (fun x hx9 => (hnt x hx9).elim) hlocks hcell hcv hcl (fun t2 ht2 _ => ⟨(), trivial, hBX, hS1.F ht2⟩) hS1.2.2 (Nat.le_refl _) (Nat.le_refl _)
abbrev rxX0_setWeight3 : Room := { frames := 7, cells := 1, slots := 6, locals := 112 }
set_option maxHeartbeats 4000000 in
set_option maxRecDepth 100000 in
theorem x_X0_setWeight3 {l : Launch} (hlt : l.stackTraces = false) {sa : Nat → Nat} {D : va_G} {q : Nat → Nat} {cI cD : ClassId} {rC : Int32} {fi fo fw : Nat → Int32} {fe : Nat → UInt64} {ft fr fp fl : Nat → Int32} {ff : Nat → UInt64} {n : Nat} (hn : 3 ≤ n ∧ n ≤ 6) {i k : Nat} (hi : i < n) (hk : k < n) {x : Int32} (hbad : wth x (nI 0) (nI 99) = false) : vx_Met l yX0_setWeight wsX0_setWeight rxX0_setWeight3 (va_Pc [.ref (q 0), .int (nI i), .int (nI k), .int x] (xPre D (tys2 cI cD) (cW q cI cD (nI n) rC fi fo fw fe ft fr fp fl ff) sa)) (va_Qi (fun _ (_ : Unit) => False) (fun _ _ => True) (fun _ => False)) (xX eA) 1 6 (fun _ => False) := by
  refine xmet_intro (cc := cX0_setWeight) (maxL := 5) (ret := (some .int)) (own := RX0) (by decide) rfl rfl (Nat.le_of_ble_eq_true rfl) ?_
  intro pp ee ss mm args below meth cd Q ls hQ S hr hlocks hnt hv hB hl
  obtain ⟨hx, hb, hml, hown, hts⟩ := id S
  obtain ⟨⟨hP, hK⟩, hG⟩ := hB
  have hl : lv_has ls 5 [(0, .ref (q 0)), (1, .int (nI i)), (2, .int (nI k)), (3, .int x)] := hl
  refine lv_aload_n hx hb dX0_setWeight_0 rfl (lv_at hl 0 rfl) ?_
  refine lv_iload_n hx hb dX0_setWeight_1 rfl (lv_at hl 1 rfl) ?_
  refine va_csv (W.runV (As := [.int (nI i)]) (rest := []) S (c_X0_requireArm hn (i := i) (by omega)) (cwV 1 hts gX0_setWeight_X0_requireArm rfl rfl rfl hdX0_requireArm ⟨Nat.le_of_ble_eq_true rfl, Nat.le_of_ble_eq_true rfl⟩) (preV hK hP rfl rfl) rfl rfl hl.1 rfl (lv_room (Nat.le_of_ble_eq_true rfl)) dX0_setWeight_2 ⟨Nat.zero_le _, Nat.zero_le _⟩) (fun _ => ?_)
  refine lv_aload_n hx hb dX0_setWeight_5 rfl (lv_at hl 0 rfl) ?_
  refine lv_iload_n hx hb dX0_setWeight_6 rfl (lv_at hl 2 rfl) ?_
  refine va_csv (W.runV (As := [.int (nI k)]) (rest := []) S (c_X0_requireArm hn (i := k) (by omega)) (cwV 1 hts gX0_setWeight_X0_requireArm rfl rfl rfl hdX0_requireArm ⟨Nat.le_of_ble_eq_true rfl, Nat.le_of_ble_eq_true rfl⟩) (preV hK hP rfl rfl) rfl rfl hl.1 rfl (lv_room (Nat.le_of_ble_eq_true rfl)) dX0_setWeight_7 ⟨Nat.zero_le _, Nat.zero_le _⟩) (fun _ => ?_)
  refine lv_iload_n hx hb dX0_setWeight_10 rfl (lv_at hl 3 rfl) ?_
  refine lv_iconst (v := nI 0) hx hb dX0_setWeight_11 (by decide) ?_
  refine lv_bipush (v := nI 99) hx hb dX0_setWeight_12 (by decide) ?_
  refine vx_callv (vx_runS (As := [.int x, .int (nI 0), .int (nI 99)]) (rest := []) S (x_X0_requireWithin hlt hbad) (va_cwS 3 hts gX0_setWeight_X0_requireWithin rfl rfl rfl hdX0_requireWithin ⟨Nat.le_of_ble_eq_true rfl, Nat.le_of_ble_eq_true rfl⟩) (preY hG) rfl rfl hl.1 rfl (lv_room (Nat.le_of_ble_eq_true rfl)) dX0_setWeight_14 ⟨Nat.le_of_ble_eq_true rfl, Nat.le_of_ble_eq_true rfl⟩) (va_S.rf (A := fun _ => False)) (fun _ _ h => h) (fun _ h => h) (fun _ _ h => h) (fun E ce q9 u t H1 locs1 ht hvm hpx hBX hz hk9 hS1 hcell hcv hcl => ?_) (fun u t H1 locs1 ht hvm hw _ _ _ _ => absurd hw id)
  subst hQ
  exact vx_out (fun x hx9 => (hnt x hx9).elim) hlocks hcell hcv hcl (fun t2 ht2 _ => ⟨(), trivial, hBX, hS1.F ht2⟩) hS1.2.2 (Nat.le_refl _) (Nat.le_refl _)
abbrev rxX0_scale1 : Room := { frames := 7, cells := 1, slots := 6, locals := 112 }
set_option maxHeartbeats 4000000 in
set_option maxRecDepth 100000 in
theorem x_X0_scale1 {l : Launch} (hlt : l.stackTraces = false) {sa : Nat → Nat} {D : va_G} {q : Nat → Nat} {cI cD : ClassId} {rC : Int32} {fi fo fw : Nat → Int32} {fe : Nat → UInt64} {ft fr fp fl : Nat → Int32} {ff : Nat → UInt64} {n : Nat} {x : Int32} (hbad : wth x (nI 0) (nI 300) = false) : vx_Met l yX0_scale wsX0_scale rxX0_scale1 (va_Pc [.ref (q 0), .int x] (xPre D (tys2 cI cD) (cW q cI cD (nI n) rC fi fo fw fe ft fr fp fl ff) sa)) (va_Qi (fun _ (_ : Unit) => False) (fun _ _ => True) (fun _ => False)) (xX eA) 1 6 (fun _ => False) := by
  refine xmet_intro (cc := cX0_scale) (maxL := 3) (ret := (some .int)) (own := RX0) (by decide) rfl rfl (Nat.le_of_ble_eq_true rfl) ?_
  intro pp ee ss mm args below meth cd Q ls hQ S hr hlocks hnt hv hB hl
  obtain ⟨hx, hb, hml, hown, hts⟩ := id S
  obtain ⟨⟨hP, hK⟩, hG⟩ := hB
  have hl : lv_has ls 3 [(0, .ref (q 0)), (1, .int x)] := hl
  refine lv_iload_n hx hb dX0_scale_0 rfl (lv_at hl 1 rfl) ?_
  refine lv_iconst (v := nI 0) hx hb dX0_scale_1 (by decide) ?_
  refine lv_sipush (v := nI 300) hx hb dX0_scale_2 (by decide) ?_
  refine vx_callv (vx_runS (As := [.int x, .int (nI 0), .int (nI 300)]) (rest := []) S (x_X0_requireWithin hlt hbad) (va_cwS 3 hts gX0_scale_X0_requireWithin rfl rfl rfl hdX0_requireWithin ⟨Nat.le_of_ble_eq_true rfl, Nat.le_of_ble_eq_true rfl⟩) (preY hG) rfl rfl hl.1 rfl (lv_room (Nat.le_of_ble_eq_true rfl)) dX0_scale_5 ⟨Nat.le_of_ble_eq_true rfl, Nat.le_of_ble_eq_true rfl⟩) (va_S.rf (A := fun _ => False)) (fun _ _ h => h) (fun _ h => h) (fun _ _ h => h) (fun E ce q9 u t H1 locs1 ht hvm hpx hBX hz hk9 hS1 hcell hcv hcl => ?_) (fun u t H1 locs1 ht hvm hw _ _ _ _ => absurd hw id)
  subst hQ
  exact vx_out (fun x hx9 => (hnt x hx9).elim) hlocks hcell hcv hcl (fun t2 ht2 _ => ⟨(), trivial, hBX, hS1.F ht2⟩) hS1.2.2 (Nat.le_refl _) (Nat.le_refl _)
abbrev rxX0_excess : Room := { frames := 7, cells := 1, slots := 6, locals := 112 }
set_option maxHeartbeats 4000000 in
set_option maxRecDepth 100000 in
theorem x_X0_excess {l : Launch} (hlt : l.stackTraces = false) {sa : Nat → Nat} {D : va_G} {q : Nat → Nat} {cI cD : ClassId} {rC : Int32} {fi fo fw : Nat → Int32} {fe : Nat → UInt64} {ft fr fp fl : Nat → Int32} {ff : Nat → UInt64} {n : Nat} (hn : 3 ≤ n ∧ n ≤ 6) {x : Int32} (hbad : wth x (nI 0) (nI (2 ^ n - 1)) = false) : vx_Met l yX0_excess wsX0_excess rxX0_excess (va_Pc [.ref (q 0), .int x] (xPre D (tys2 cI cD) (cW q cI cD (nI n) rC fi fo fw fe ft fr fp fl ff) sa)) (va_Qi (fun _ (_ : Unit) => False) (fun _ _ => True) (fun _ => False)) (xX eA) 1 6 (fun _ => False) := by
  refine xmet_intro (cc := cX0_excess) (maxL := 2) (ret := (some .int)) (own := RX0) (by decide) rfl rfl (Nat.le_of_ble_eq_true rfl) ?_
  intro pp ee ss mm args below meth cd Q ls hQ S hr hlocks hnt hv hB hl
  obtain ⟨hx, hb, hml, hown, hts⟩ := id S
  obtain ⟨⟨hP, hK⟩, hG⟩ := hB
  have hl : lv_has ls 2 [(0, .ref (q 0)), (1, .int x)] := hl
  refine lv_iload_n hx hb dX0_excess_0 rfl (lv_at hl 1 rfl) ?_
  refine lv_iconst (v := nI 0) hx hb dX0_excess_1 (by decide) ?_
  refine lv_aload_n hx hb dX0_excess_2 rfl (lv_at hl 0 rfl) ?_
  refine vp_callSi (W.runV (As := []) (rest := [.int (nI 0), .int x]) S (c_X0_allArms hn) (cwV 0 hts gX0_excess_X0_allArms rfl rfl rfl hdX0_allArms ⟨Nat.le_of_ble_eq_true rfl, Nat.le_of_ble_eq_true rfl⟩) (preV hK hP rfl rfl) rfl rfl hl.1 rfl (lv_room (Nat.le_of_ble_eq_true rfl)) dX0_excess_3 ⟨Nat.zero_le _, Nat.zero_le _⟩) (fun r_1 er_1 => ?_)
  subst er_1
  refine vx_callv (vx_runS (As := [.int x, .int (nI 0), .int (nI (2 ^ n - 1))]) (rest := []) S (x_X0_requireWithin hlt hbad) (va_cwS 3 hts gX0_excess_X0_requireWithin rfl rfl rfl hdX0_requireWithin ⟨Nat.le_of_ble_eq_true rfl, Nat.le_of_ble_eq_true rfl⟩) (preY hG) rfl rfl hl.1 rfl (lv_room (Nat.le_of_ble_eq_true rfl)) dX0_excess_6 ⟨Nat.le_of_ble_eq_true rfl, Nat.le_of_ble_eq_true rfl⟩) (va_S.rf (A := fun _ => False)) (fun _ _ h => h) (fun _ h => h) (fun _ _ h => h) (fun E ce q9 u t H1 locs1 ht hvm hpx hBX hz hk9 hS1 hcell hcv hcl => ?_) (fun u t H1 locs1 ht hvm hw _ _ _ _ => absurd hw id)
  subst hQ
  exact vx_out (fun x hx9 => (hnt x hx9).elim) hlocks hcell hcv hcl (fun t2 ht2 _ => ⟨(), trivial, hBX, hS1.F ht2⟩) hS1.2.2 (Nat.le_refl _) (Nat.le_refl _)
abbrev rxX0_iterate : Room := { frames := 7, cells := 1, slots := 6, locals := 112 }
set_option maxHeartbeats 4000000 in
set_option maxRecDepth 100000 in
theorem x_X0_iterate {l : Launch} (hlt : l.stackTraces = false) {sa : Nat → Nat} {D : va_G} {q : Nat → Nat} {cI cD : ClassId} {rC : Int32} {fi fo fw : Nat → Int32} {fe : Nat → UInt64} {ft fr fp fl : Nat → Int32} {ff : Nat → UInt64} {n : Nat} {x : Int32} (hbad : wth x (nI 1) (nI 50) = false) : vx_Met l yX0_iterate wsX0_iterate rxX0_iterate (va_Pc [.ref (q 0), .int x] (xPre D (tys2 cI cD) (cW q cI cD (nI n) rC fi fo fw fe ft fr fp fl ff) sa)) (va_Qi (fun _ (_ : Unit) => False) (fun _ _ => True) (fun _ => False)) (xX eA) 1 6 (fun _ => False) := by
  refine xmet_intro (cc := cX0_iterate) (maxL := 3) (ret := (some .int)) (own := RX0) (by decide) rfl rfl (Nat.le_of_ble_eq_true rfl) ?_
  intro pp ee ss mm args below meth cd Q ls hQ S hr hlocks hnt hv hB hl
  obtain ⟨hx, hb, hml, hown, hts⟩ := id S
  obtain ⟨⟨hP, hK⟩, hG⟩ := hB
  have hl : lv_has ls 3 [(0, .ref (q 0)), (1, .int x)] := hl
  refine lv_iload_n hx hb dX0_iterate_0 rfl (lv_at hl 1 rfl) ?_
  refine lv_iconst (v := nI 1) hx hb dX0_iterate_1 (by decide) ?_
  refine lv_bipush (v := nI 50) hx hb dX0_iterate_2 (by decide) ?_
  refine vx_callv (vx_runS (As := [.int x, .int (nI 1), .int (nI 50)]) (rest := []) S (x_X0_requireWithin hlt hbad) (va_cwS 3 hts gX0_iterate_X0_requireWithin rfl rfl rfl hdX0_requireWithin ⟨Nat.le_of_ble_eq_true rfl, Nat.le_of_ble_eq_true rfl⟩) (preY hG) rfl rfl hl.1 rfl (lv_room (Nat.le_of_ble_eq_true rfl)) dX0_iterate_4 ⟨Nat.le_of_ble_eq_true rfl, Nat.le_of_ble_eq_true rfl⟩) (va_S.rf (A := fun _ => False)) (fun _ _ h => h) (fun _ h => h) (fun _ _ h => h) (fun E ce q9 u t H1 locs1 ht hvm hpx hBX hz hk9 hS1 hcell hcv hcl => ?_) (fun u t H1 locs1 ht hvm hw _ _ _ _ => absurd hw id)
  subst hQ
  exact vx_out (fun x hx9 => (hnt x hx9).elim) hlocks hcell hcv hcl (fun t2 ht2 _ => ⟨(), trivial, hBX, hS1.F ht2⟩) hS1.2.2 (Nat.le_refl _) (Nat.le_refl _)
abbrev rxX0_fit1 : Room := { frames := 7, cells := 1, slots := 6, locals := 112 }
set_option maxHeartbeats 4000000 in
set_option maxRecDepth 100000 in
theorem x_X0_fit1 {l : Launch} (hlt : l.stackTraces = false) {sa : Nat → Nat} {D : va_G} {q : Nat → Nat} {cI cD : ClassId} {rC : Int32} {fi fo fw : Nat → Int32} {fe : Nat → UInt64} {ft fr fp fl : Nat → Int32} {ff : Nat → UInt64} {n : Nat} {x y : Int32} (hbad : wth x (nI 0) (nI 100000) = false) : vx_Met l yX0_fit wsX0_fit rxX0_fit1 (va_Pc [.ref (q 0), .int x, .int y] (xPre D (tys2 cI cD) (cW q cI cD (nI n) rC fi fo fw fe ft fr fp fl ff) sa)) (va_Qi (fun _ (_ : Unit) => False) (fun _ _ => True) (fun _ => False)) (xX eA) 1 6 (fun _ => False) := by
  refine xmet_intro (cc := cX0_fit) (maxL := 6) (ret := (some .int)) (own := RX0) (by decide) rfl rfl (Nat.le_of_ble_eq_true rfl) ?_
  intro pp ee ss mm args below meth cd Q ls hQ S hr hlocks hnt hv hB hl
  obtain ⟨hx, hb, hml, hown, hts⟩ := id S
  obtain ⟨⟨hP, hK⟩, hG⟩ := hB
  have hl : lv_has ls 6 [(0, .ref (q 0)), (1, .int x), (2, .int y)] := hl
  refine lv_iload_n hx hb dX0_fit_0 rfl (lv_at hl 1 rfl) ?_
  refine lv_iconst (v := nI 0) hx hb dX0_fit_1 (by decide) ?_
  refine lv_ldc (v := nI 100000) hx hb hown (hts (.constant RX0 98 (nI 100000)) (by decide +kernel)) dX0_fit_2 ?_
  refine vx_callv (vx_runS (As := [.int x, .int (nI 0), .int (nI 100000)]) (rest := []) S (x_X0_requireWithin hlt hbad) (va_cwS 3 hts gX0_fit_X0_requireWithin rfl rfl rfl hdX0_requireWithin ⟨Nat.le_of_ble_eq_true rfl, Nat.le_of_ble_eq_true rfl⟩) (preY hG) rfl rfl hl.1 rfl (lv_room (Nat.le_of_ble_eq_true rfl)) dX0_fit_4 ⟨Nat.le_of_ble_eq_true rfl, Nat.le_of_ble_eq_true rfl⟩) (va_S.rf (A := fun _ => False)) (fun _ _ h => h) (fun _ h => h) (fun _ _ h => h) (fun E ce q9 u t H1 locs1 ht hvm hpx hBX hz hk9 hS1 hcell hcv hcl => ?_) (fun u t H1 locs1 ht hvm hw _ _ _ _ => absurd hw id)
  subst hQ
  exact vx_out (fun x hx9 => (hnt x hx9).elim) hlocks hcell hcv hcl (fun t2 ht2 _ => ⟨(), trivial, hBX, hS1.F ht2⟩) hS1.2.2 (Nat.le_refl _) (Nat.le_refl _)
abbrev rxX0_fit2 : Room := { frames := 7, cells := 1, slots := 6, locals := 112 }
set_option maxHeartbeats 4000000 in
set_option maxRecDepth 100000 in
theorem x_X0_fit2 {l : Launch} (hlt : l.stackTraces = false) {sa : Nat → Nat} {D : va_G} {q : Nat → Nat} {cI cD : ClassId} {rC : Int32} {fi fo fw : Nat → Int32} {fe : Nat → UInt64} {ft fr fp fl : Nat → Int32} {ff : Nat → UInt64} {n : Nat} {x y : Int32} (hok : wth x (nI 0) (nI 100000) = true) (hbad : wth y (nI 1) (nI 100) = false) : vx_Met l yX0_fit wsX0_fit rxX0_fit2 (va_Pc [.ref (q 0), .int x, .int y] (xPre D (tys2 cI cD) (cW q cI cD (nI n) rC fi fo fw fe ft fr fp fl ff) sa)) (va_Qi (fun _ (_ : Unit) => False) (fun _ _ => True) (fun _ => False)) (xX eA) 1 6 (fun _ => False) := by
  refine xmet_intro (cc := cX0_fit) (maxL := 6) (ret := (some .int)) (own := RX0) (by decide) rfl rfl (Nat.le_of_ble_eq_true rfl) ?_
  intro pp ee ss mm args below meth cd Q ls hQ S hr hlocks hnt hv hB hl
  obtain ⟨hx, hb, hml, hown, hts⟩ := id S
  obtain ⟨⟨hP, hK⟩, hG⟩ := hB
  have hl : lv_has ls 6 [(0, .ref (q 0)), (1, .int x), (2, .int y)] := hl
  refine lv_iload_n hx hb dX0_fit_0 rfl (lv_at hl 1 rfl) ?_
  refine lv_iconst (v := nI 0) hx hb dX0_fit_1 (by decide) ?_
  refine lv_ldc (v := nI 100000) hx hb hown (hts (.constant RX0 98 (nI 100000)) (by decide +kernel)) dX0_fit_2 ?_
  refine va_csv (W.runS (As := [.int x, .int (nI 0), .int (nI 100000)]) (rest := []) S (c_X0_requireWithin (wth_t1 hok) (wth_t2 hok)) (va_cwS 3 hts gX0_fit_X0_requireWithin rfl rfl rfl hdX0_requireWithin ⟨Nat.le_of_ble_eq_true rfl, Nat.le_of_ble_eq_true rfl⟩) preS rfl rfl hl.1 rfl (lv_room (Nat.le_of_ble_eq_true rfl)) dX0_fit_4 ⟨Nat.zero_le _, Nat.zero_le _⟩) (fun _ => ?_)
  refine lv_iload_n hx hb dX0_fit_7 rfl (lv_at hl 2 rfl) ?_
  refine lv_iconst (v := nI 1) hx hb dX0_fit_8 (by decide) ?_
  refine lv_bipush (v := nI 100) hx hb dX0_fit_9 (by decide) ?_
  refine vx_callv (vx_runS (As := [.int y, .int (nI 1), .int (nI 100)]) (rest := []) S (x_X0_requireWithin hlt hbad) (va_cwS 3 hts gX0_fit_X0_requireWithin rfl rfl rfl hdX0_requireWithin ⟨Nat.le_of_ble_eq_true rfl, Nat.le_of_ble_eq_true rfl⟩) (preY hG) rfl rfl hl.1 rfl (lv_room (Nat.le_of_ble_eq_true rfl)) dX0_fit_11 ⟨Nat.le_of_ble_eq_true rfl, Nat.le_of_ble_eq_true rfl⟩) (va_S.rf (A := fun _ => False)) (fun _ _ h => h) (fun _ h => h) (fun _ _ h => h) (fun E ce q9 u t H1 locs1 ht hvm hpx hBX hz hk9 hS1 hcell hcv hcl => ?_) (fun u t H1 locs1 ht hvm hw _ _ _ _ => absurd hw id)
  subst hQ
  exact vx_out (fun x hx9 => (hnt x hx9).elim) hlocks hcell hcv hcl (fun t2 ht2 _ => ⟨(), trivial, hBX, hS1.F ht2⟩) hS1.2.2 (Nat.le_refl _) (Nat.le_refl _)
abbrev rxX0_estimate1 : Room := { frames := 7, cells := 1, slots := 6, locals := 111 }
set_option maxHeartbeats 4000000 in
set_option maxRecDepth 100000 in
theorem x_X0_estimate1 {l : Launch} (hlt : l.stackTraces = false) {sa : Nat → Nat} {D : va_G} {q : Nat → Nat} {cI cD : ClassId} {rC : Int32} {fi fo fw : Nat → Int32} {fe : Nat → UInt64} {ft fr fp fl : Nat → Int32} {ff : Nat → UInt64} {n : Nat} (hn : 3 ≤ n ∧ n ≤ 6) {y z : Int32} (hbad : armB n y = false) : vx_Met l yX0_estimate wsX0_estimate rxX0_estimate1 (va_Pc [.ref (q 0), .int y, .int z] (xPre D (tys2 cI cD) (cW q cI cD (nI n) rC fi fo fw fe ft fr fp fl ff) sa)) (va_Qd (fun _ (_ : Unit) => False) (fun _ _ => True) (fun _ => False)) (xX eI) 1 6 (fun _ => False) := by
  refine xmet_intro (cc := cX0_estimate) (maxL := 3) (ret := (some .double)) (own := RX0) (by decide) rfl rfl (Nat.le_of_ble_eq_true rfl) ?_
  intro pp ee ss mm args below meth cd Q ls hQ S hr hlocks hnt hv hB hl
  obtain ⟨hx, hb, hml, hown, hts⟩ := id S
  obtain ⟨⟨hP, hK⟩, hG⟩ := hB
  have hl : lv_has ls 3 [(0, .ref (q 0)), (1, .int y), (2, .int z)] := hl
  refine lv_aload_n hx hb dX0_estimate_0 rfl (lv_at hl 0 rfl) ?_
  refine lv_iload_n hx hb dX0_estimate_1 rfl (lv_at hl 1 rfl) ?_
  refine vx_callv (vx_runV (As := [.int y]) (rest := []) S (x_X0_requireArm hlt hn hbad) (cwV 1 hts gX0_estimate_X0_requireArm rfl rfl rfl hdX0_requireArm ⟨Nat.le_of_ble_eq_true rfl, Nat.le_of_ble_eq_true rfl⟩) (preX hK hP hG rfl rfl) rfl rfl hl.1 rfl (lv_room (Nat.le_of_ble_eq_true rfl)) dX0_estimate_2 ⟨Nat.le_of_ble_eq_true rfl, Nat.le_of_ble_eq_true rfl⟩) (va_S.rf (A := fun _ => False)) (fun _ _ h => h) (fun _ h => h) (fun _ _ h => h) (fun E ce q9 u t H1 locs1 ht hvm hpx hBX hz hk9 hS1 hcell hcv hcl => ?_) (fun u t H1 locs1 ht hvm hw _ _ _ _ => absurd hw id)
  subst hQ
  exact vx_out (fun x hx9 => (hnt x hx9).elim) hlocks hcell hcv hcl (fun t2 ht2 _ => ⟨(), trivial, hBX, hS1.F ht2⟩) hS1.2.2 (Nat.le_refl _) (Nat.le_refl _)
abbrev rxX0_estimate2 : Room := { frames := 7, cells := 1, slots := 6, locals := 111 }
set_option maxHeartbeats 4000000 in
set_option maxRecDepth 100000 in
theorem x_X0_estimate2 {l : Launch} (hlt : l.stackTraces = false) {sa : Nat → Nat} {D : va_G} {q : Nat → Nat} {cI cD : ClassId} {rC : Int32} {fi fo fw : Nat → Int32} {fe : Nat → UInt64} {ft fr fp fl : Nat → Int32} {ff : Nat → UInt64} {n : Nat} (hn : 3 ≤ n ∧ n ≤ 6) {i : Nat} {z : Int32} (hi : i < n) (hbad : armB n z = false) : vx_Met l yX0_estimate wsX0_estimate rxX0_estimate2 (va_Pc [.ref (q 0), .int (nI i), .int z] (xPre D (tys2 cI cD) (cW q cI cD (nI n) rC fi fo fw fe ft fr fp fl ff) sa)) (va_Qd (fun _ (_ : Unit) => False) (fun _ _ => True) (fun _ => False)) (xX eI) 1 6 (fun _ => False) := by
  refine xmet_intro (cc := cX0_estimate) (maxL := 3) (ret := (some .double)) (own := RX0) (by decide) rfl rfl (Nat.le_of_ble_eq_true rfl) ?_
  intro pp ee ss mm args below meth cd Q ls hQ S hr hlocks hnt hv hB hl
  obtain ⟨hx, hb, hml, hown, hts⟩ := id S
  obtain ⟨⟨hP, hK⟩, hG⟩ := hB
  have hl : lv_has ls 3 [(0, .ref (q 0)), (1, .int (nI i)), (2, .int z)] := hl
  refine lv_aload_n hx hb dX0_estimate_0 rfl (lv_at hl 0 rfl) ?_
  refine lv_iload_n hx hb dX0_estimate_1 rfl (lv_at hl 1 rfl) ?_
  refine va_csv (W.runV (As := [.int (nI i)]) (rest := []) S (c_X0_requireArm hn (i := i) (by omega)) (cwV 1 hts gX0_estimate_X0_requireArm rfl rfl rfl hdX0_requireArm ⟨Nat.le_of_ble_eq_true rfl, Nat.le_of_ble_eq_true rfl⟩) (preV hK hP rfl rfl) rfl rfl hl.1 rfl (lv_room (Nat.le_of_ble_eq_true rfl)) dX0_estimate_2 ⟨Nat.zero_le _, Nat.zero_le _⟩) (fun _ => ?_)
  refine lv_aload_n hx hb dX0_estimate_5 rfl (lv_at hl 0 rfl) ?_
  refine lv_iload_n hx hb dX0_estimate_6 rfl (lv_at hl 2 rfl) ?_
  refine vx_callv (vx_runV (As := [.int z]) (rest := []) S (x_X0_requireArm hlt hn hbad) (cwV 1 hts gX0_estimate_X0_requireArm rfl rfl rfl hdX0_requireArm ⟨Nat.le_of_ble_eq_true rfl, Nat.le_of_ble_eq_true rfl⟩) (preX hK hP hG rfl rfl) rfl rfl hl.1 rfl (lv_room (Nat.le_of_ble_eq_true rfl)) dX0_estimate_7 ⟨Nat.le_of_ble_eq_true rfl, Nat.le_of_ble_eq_true rfl⟩) (va_S.rf (A := fun _ => False)) (fun _ _ h => h) (fun _ h => h) (fun _ _ h => h) (fun E ce q9 u t H1 locs1 ht hvm hpx hBX hz hk9 hS1 hcell hcv hcl => ?_) (fun u t H1 locs1 ht hvm hw _ _ _ _ => absurd hw id)
  subst hQ
  exact vx_out (fun x hx9 => (hnt x hx9).elim) hlocks hcell hcv hcl (fun t2 ht2 _ => ⟨(), trivial, hBX, hS1.F ht2⟩) hS1.2.2 (Nat.le_refl _) (Nat.le_refl _)
abbrev rxX0_share1 : Room := { frames := 7, cells := 1, slots := 6, locals := 111 }
set_option maxHeartbeats 4000000 in
set_option maxRecDepth 100000 in
theorem x_X0_share1 {l : Launch} (hlt : l.stackTraces = false) {sa : Nat → Nat} {D : va_G} {q : Nat → Nat} {cI cD : ClassId} {rC : Int32} {fi fo fw : Nat → Int32} {fe : Nat → UInt64} {ft fr fp fl : Nat → Int32} {ff : Nat → UInt64} {n : Nat} (hn : 3 ≤ n ∧ n ≤ 6) {y z : Int32} (hbad : armB n y = false) : vx_Met l yX0_share wsX0_share rxX0_share1 (va_Pc [.ref (q 0), .int y, .int z] (xPre D (tys2 cI cD) (cW q cI cD (nI n) rC fi fo fw fe ft fr fp fl ff) sa)) (va_Qd (fun _ (_ : Unit) => False) (fun _ _ => True) (fun _ => False)) (xX eI) 1 6 (fun _ => False) := by
  refine xmet_intro (cc := cX0_share) (maxL := 5) (ret := (some .double)) (own := RX0) (by decide) rfl rfl (Nat.le_of_ble_eq_true rfl) ?_
  intro pp ee ss mm args below meth cd Q ls hQ S hr hlocks hnt hv hB hl
  obtain ⟨hx, hb, hml, hown, hts⟩ := id S
  obtain ⟨⟨hP, hK⟩, hG⟩ := hB
  have hl : lv_has ls 5 [(0, .ref (q 0)), (1, .int y), (2, .int z)] := hl
  refine lv_aload_n hx hb dX0_share_0 rfl (lv_at hl 0 rfl) ?_
  refine lv_iload_n hx hb dX0_share_1 rfl (lv_at hl 1 rfl) ?_
  refine vx_callv (vx_runV (As := [.int y]) (rest := []) S (x_X0_requireArm hlt hn hbad) (cwV 1 hts gX0_share_X0_requireArm rfl rfl rfl hdX0_requireArm ⟨Nat.le_of_ble_eq_true rfl, Nat.le_of_ble_eq_true rfl⟩) (preX hK hP hG rfl rfl) rfl rfl hl.1 rfl (lv_room (Nat.le_of_ble_eq_true rfl)) dX0_share_2 ⟨Nat.le_of_ble_eq_true rfl, Nat.le_of_ble_eq_true rfl⟩) (va_S.rf (A := fun _ => False)) (fun _ _ h => h) (fun _ h => h) (fun _ _ h => h) (fun E ce q9 u t H1 locs1 ht hvm hpx hBX hz hk9 hS1 hcell hcv hcl => ?_) (fun u t H1 locs1 ht hvm hw _ _ _ _ => absurd hw id)
  subst hQ
  exact vx_out (fun x hx9 => (hnt x hx9).elim) hlocks hcell hcv hcl (fun t2 ht2 _ => ⟨(), trivial, hBX, hS1.F ht2⟩) hS1.2.2 (Nat.le_refl _) (Nat.le_refl _)
abbrev rxX0_share2 : Room := { frames := 7, cells := 1, slots := 6, locals := 111 }
set_option maxHeartbeats 4000000 in
set_option maxRecDepth 100000 in
theorem x_X0_share2 {l : Launch} (hlt : l.stackTraces = false) {sa : Nat → Nat} {D : va_G} {q : Nat → Nat} {cI cD : ClassId} {rC : Int32} {fi fo fw : Nat → Int32} {fe : Nat → UInt64} {ft fr fp fl : Nat → Int32} {ff : Nat → UInt64} {n : Nat} (hn : 3 ≤ n ∧ n ≤ 6) {i : Nat} {z : Int32} (hi : i < n) (hbad : armB n z = false) : vx_Met l yX0_share wsX0_share rxX0_share2 (va_Pc [.ref (q 0), .int (nI i), .int z] (xPre D (tys2 cI cD) (cW q cI cD (nI n) rC fi fo fw fe ft fr fp fl ff) sa)) (va_Qd (fun _ (_ : Unit) => False) (fun _ _ => True) (fun _ => False)) (xX eI) 1 6 (fun _ => False) := by
  refine xmet_intro (cc := cX0_share) (maxL := 5) (ret := (some .double)) (own := RX0) (by decide) rfl rfl (Nat.le_of_ble_eq_true rfl) ?_
  intro pp ee ss mm args below meth cd Q ls hQ S hr hlocks hnt hv hB hl
  obtain ⟨hx, hb, hml, hown, hts⟩ := id S
  obtain ⟨⟨hP, hK⟩, hG⟩ := hB
  have hl : lv_has ls 5 [(0, .ref (q 0)), (1, .int (nI i)), (2, .int z)] := hl
  refine lv_aload_n hx hb dX0_share_0 rfl (lv_at hl 0 rfl) ?_
  refine lv_iload_n hx hb dX0_share_1 rfl (lv_at hl 1 rfl) ?_
  refine va_csv (W.runV (As := [.int (nI i)]) (rest := []) S (c_X0_requireArm hn (i := i) (by omega)) (cwV 1 hts gX0_share_X0_requireArm rfl rfl rfl hdX0_requireArm ⟨Nat.le_of_ble_eq_true rfl, Nat.le_of_ble_eq_true rfl⟩) (preV hK hP rfl rfl) rfl rfl hl.1 rfl (lv_room (Nat.le_of_ble_eq_true rfl)) dX0_share_2 ⟨Nat.zero_le _, Nat.zero_le _⟩) (fun _ => ?_)
  refine lv_aload_n hx hb dX0_share_5 rfl (lv_at hl 0 rfl) ?_
  refine lv_iload_n hx hb dX0_share_6 rfl (lv_at hl 2 rfl) ?_
  refine vx_callv (vx_runV (As := [.int z]) (rest := []) S (x_X0_requireArm hlt hn hbad) (cwV 1 hts gX0_share_X0_requireArm rfl rfl rfl hdX0_requireArm ⟨Nat.le_of_ble_eq_true rfl, Nat.le_of_ble_eq_true rfl⟩) (preX hK hP hG rfl rfl) rfl rfl hl.1 rfl (lv_room (Nat.le_of_ble_eq_true rfl)) dX0_share_7 ⟨Nat.le_of_ble_eq_true rfl, Nat.le_of_ble_eq_true rfl⟩) (va_S.rf (A := fun _ => False)) (fun _ _ h => h) (fun _ h => h) (fun _ _ h => h) (fun E ce q9 u t H1 locs1 ht hvm hpx hBX hz hk9 hS1 hcell hcv hcl => ?_) (fun u t H1 locs1 ht hvm hw _ _ _ _ => absurd hw id)
  subst hQ
  exact vx_out (fun x hx9 => (hnt x hx9).elim) hlocks hcell hcv hcl (fun t2 ht2 _ => ⟨(), trivial, hBX, hS1.F ht2⟩) hS1.2.2 (Nat.le_refl _) (Nat.le_refl _)
abbrev rxX0_rounded1 : Room := { frames := 7, cells := 1, slots := 6, locals := 111 }
set_option maxHeartbeats 4000000 in
set_option maxRecDepth 100000 in
theorem x_X0_rounded1 {l : Launch} (hlt : l.stackTraces = false) {sa : Nat → Nat} {D : va_G} {q : Nat → Nat} {cI cD : ClassId} {rC : Int32} {fi fo fw : Nat → Int32} {fe : Nat → UInt64} {ft fr fp fl : Nat → Int32} {ff : Nat → UInt64} {n : Nat} (hn : 3 ≤ n ∧ n ≤ 6) {y z : Int32} (hbad : armB n y = false) : vx_Met l yX0_rounded wsX0_rounded rxX0_rounded1 (va_Pc [.ref (q 0), .int y, .int z] (xPre D (tys2 cI cD) (cW q cI cD (nI n) rC fi fo fw fe ft fr fp fl ff) sa)) (va_Qi (fun _ (_ : Unit) => False) (fun _ _ => True) (fun _ => False)) (xX eI) 1 6 (fun _ => False) := by
  refine xmet_intro (cc := cX0_rounded) (maxL := 3) (ret := (some .int)) (own := RX0) (by decide) rfl rfl (Nat.le_of_ble_eq_true rfl) ?_
  intro pp ee ss mm args below meth cd Q ls hQ S hr hlocks hnt hv hB hl
  obtain ⟨hx, hb, hml, hown, hts⟩ := id S
  obtain ⟨⟨hP, hK⟩, hG⟩ := hB
  have hl : lv_has ls 3 [(0, .ref (q 0)), (1, .int y), (2, .int z)] := hl
  refine lv_aload_n hx hb dX0_rounded_0 rfl (lv_at hl 0 rfl) ?_
  refine lv_iload_n hx hb dX0_rounded_1 rfl (lv_at hl 1 rfl) ?_
  refine vx_callv (vx_runV (As := [.int y]) (rest := []) S (x_X0_requireArm hlt hn hbad) (cwV 1 hts gX0_rounded_X0_requireArm rfl rfl rfl hdX0_requireArm ⟨Nat.le_of_ble_eq_true rfl, Nat.le_of_ble_eq_true rfl⟩) (preX hK hP hG rfl rfl) rfl rfl hl.1 rfl (lv_room (Nat.le_of_ble_eq_true rfl)) dX0_rounded_2 ⟨Nat.le_of_ble_eq_true rfl, Nat.le_of_ble_eq_true rfl⟩) (va_S.rf (A := fun _ => False)) (fun _ _ h => h) (fun _ h => h) (fun _ _ h => h) (fun E ce q9 u t H1 locs1 ht hvm hpx hBX hz hk9 hS1 hcell hcv hcl => ?_) (fun u t H1 locs1 ht hvm hw _ _ _ _ => absurd hw id)
  subst hQ
  exact vx_out (fun x hx9 => (hnt x hx9).elim) hlocks hcell hcv hcl (fun t2 ht2 _ => ⟨(), trivial, hBX, hS1.F ht2⟩) hS1.2.2 (Nat.le_refl _) (Nat.le_refl _)
abbrev rxX0_rounded2 : Room := { frames := 7, cells := 1, slots := 6, locals := 111 }
set_option maxHeartbeats 4000000 in
set_option maxRecDepth 100000 in
theorem x_X0_rounded2 {l : Launch} (hlt : l.stackTraces = false) {sa : Nat → Nat} {D : va_G} {q : Nat → Nat} {cI cD : ClassId} {rC : Int32} {fi fo fw : Nat → Int32} {fe : Nat → UInt64} {ft fr fp fl : Nat → Int32} {ff : Nat → UInt64} {n : Nat} (hn : 3 ≤ n ∧ n ≤ 6) {i : Nat} {z : Int32} (hi : i < n) (hbad : armB n z = false) : vx_Met l yX0_rounded wsX0_rounded rxX0_rounded2 (va_Pc [.ref (q 0), .int (nI i), .int z] (xPre D (tys2 cI cD) (cW q cI cD (nI n) rC fi fo fw fe ft fr fp fl ff) sa)) (va_Qi (fun _ (_ : Unit) => False) (fun _ _ => True) (fun _ => False)) (xX eI) 1 6 (fun _ => False) := by
  refine xmet_intro (cc := cX0_rounded) (maxL := 3) (ret := (some .int)) (own := RX0) (by decide) rfl rfl (Nat.le_of_ble_eq_true rfl) ?_
  intro pp ee ss mm args below meth cd Q ls hQ S hr hlocks hnt hv hB hl
  obtain ⟨hx, hb, hml, hown, hts⟩ := id S
  obtain ⟨⟨hP, hK⟩, hG⟩ := hB
  have hl : lv_has ls 3 [(0, .ref (q 0)), (1, .int (nI i)), (2, .int z)] := hl
  refine lv_aload_n hx hb dX0_rounded_0 rfl (lv_at hl 0 rfl) ?_
  refine lv_iload_n hx hb dX0_rounded_1 rfl (lv_at hl 1 rfl) ?_
  refine va_csv (W.runV (As := [.int (nI i)]) (rest := []) S (c_X0_requireArm hn (i := i) (by omega)) (cwV 1 hts gX0_rounded_X0_requireArm rfl rfl rfl hdX0_requireArm ⟨Nat.le_of_ble_eq_true rfl, Nat.le_of_ble_eq_true rfl⟩) (preV hK hP rfl rfl) rfl rfl hl.1 rfl (lv_room (Nat.le_of_ble_eq_true rfl)) dX0_rounded_2 ⟨Nat.zero_le _, Nat.zero_le _⟩) (fun _ => ?_)
  refine lv_aload_n hx hb dX0_rounded_5 rfl (lv_at hl 0 rfl) ?_
  refine lv_iload_n hx hb dX0_rounded_6 rfl (lv_at hl 2 rfl) ?_
  refine vx_callv (vx_runV (As := [.int z]) (rest := []) S (x_X0_requireArm hlt hn hbad) (cwV 1 hts gX0_rounded_X0_requireArm rfl rfl rfl hdX0_requireArm ⟨Nat.le_of_ble_eq_true rfl, Nat.le_of_ble_eq_true rfl⟩) (preX hK hP hG rfl rfl) rfl rfl hl.1 rfl (lv_room (Nat.le_of_ble_eq_true rfl)) dX0_rounded_7 ⟨Nat.le_of_ble_eq_true rfl, Nat.le_of_ble_eq_true rfl⟩) (va_S.rf (A := fun _ => False)) (fun _ _ h => h) (fun _ h => h) (fun _ _ h => h) (fun E ce q9 u t H1 locs1 ht hvm hpx hBX hz hk9 hS1 hcell hcv hcl => ?_) (fun u t H1 locs1 ht hvm hw _ _ _ _ => absurd hw id)
  subst hQ
  exact vx_out (fun x hx9 => (hnt x hx9).elim) hlocks hcell hcv hcl (fun t2 ht2 _ => ⟨(), trivial, hBX, hS1.F ht2⟩) hS1.2.2 (Nat.le_refl _) (Nat.le_refl _)
abbrev rxX0_possible1 : Room := { frames := 7, cells := 1, slots := 6, locals := 111 }
set_option maxHeartbeats 4000000 in
set_option maxRecDepth 100000 in
theorem x_X0_possible1 {l : Launch} (hlt : l.stackTraces = false) {sa : Nat → Nat} {D : va_G} {q : Nat → Nat} {cI cD : ClassId} {rC : Int32} {fi fo fw : Nat → Int32} {fe : Nat → UInt64} {ft fr fp fl : Nat → Int32} {ff : Nat → UInt64} {n : Nat} (hn : 3 ≤ n ∧ n ≤ 6) {y z : Int32} (hbad : armB n y = false) : vx_Met l yX0_possible wsX0_possible rxX0_possible1 (va_Pc [.ref (q 0), .int y, .int z] (xPre D (tys2 cI cD) (cW q cI cD (nI n) rC fi fo fw fe ft fr fp fl ff) sa)) (va_Qi (fun _ (_ : Unit) => False) (fun _ _ => True) (fun _ => False)) (xX eI) 1 6 (fun _ => False) := by
  refine xmet_intro (cc := cX0_possible) (maxL := 3) (ret := (some .int)) (own := RX0) (by decide) rfl rfl (Nat.le_of_ble_eq_true rfl) ?_
  intro pp ee ss mm args below meth cd Q ls hQ S hr hlocks hnt hv hB hl
  obtain ⟨hx, hb, hml, hown, hts⟩ := id S
  obtain ⟨⟨hP, hK⟩, hG⟩ := hB
  have hl : lv_has ls 3 [(0, .ref (q 0)), (1, .int y), (2, .int z)] := hl
  refine lv_aload_n hx hb dX0_possible_0 rfl (lv_at hl 0 rfl) ?_
  refine lv_iload_n hx hb dX0_possible_1 rfl (lv_at hl 1 rfl) ?_
  refine vx_callv (vx_runV (As := [.int y]) (rest := []) S (x_X0_requireArm hlt hn hbad) (cwV 1 hts gX0_possible_X0_requireArm rfl rfl rfl hdX0_requireArm ⟨Nat.le_of_ble_eq_true rfl, Nat.le_of_ble_eq_true rfl⟩) (preX hK hP hG rfl rfl) rfl rfl hl.1 rfl (lv_room (Nat.le_of_ble_eq_true rfl)) dX0_possible_2 ⟨Nat.le_of_ble_eq_true rfl, Nat.le_of_ble_eq_true rfl⟩) (va_S.rf (A := fun _ => False)) (fun _ _ h => h) (fun _ h => h) (fun _ _ h => h) (fun E ce q9 u t H1 locs1 ht hvm hpx hBX hz hk9 hS1 hcell hcv hcl => ?_) (fun u t H1 locs1 ht hvm hw _ _ _ _ => absurd hw id)
  subst hQ
  exact vx_out (fun x hx9 => (hnt x hx9).elim) hlocks hcell hcv hcl (fun t2 ht2 _ => ⟨(), trivial, hBX, hS1.F ht2⟩) hS1.2.2 (Nat.le_refl _) (Nat.le_refl _)
abbrev rxX0_possible2 : Room := { frames := 7, cells := 1, slots := 6, locals := 111 }
set_option maxHeartbeats 4000000 in
set_option maxRecDepth 100000 in
theorem x_X0_possible2 {l : Launch} (hlt : l.stackTraces = false) {sa : Nat → Nat} {D : va_G} {q : Nat → Nat} {cI cD : ClassId} {rC : Int32} {fi fo fw : Nat → Int32} {fe : Nat → UInt64} {ft fr fp fl : Nat → Int32} {ff : Nat → UInt64} {n : Nat} (hn : 3 ≤ n ∧ n ≤ 6) {i : Nat} {z : Int32} (hi : i < n) (hbad : armB n z = false) : vx_Met l yX0_possible wsX0_possible rxX0_possible2 (va_Pc [.ref (q 0), .int (nI i), .int z] (xPre D (tys2 cI cD) (cW q cI cD (nI n) rC fi fo fw fe ft fr fp fl ff) sa)) (va_Qi (fun _ (_ : Unit) => False) (fun _ _ => True) (fun _ => False)) (xX eI) 1 6 (fun _ => False) := by
  refine xmet_intro (cc := cX0_possible) (maxL := 3) (ret := (some .int)) (own := RX0) (by decide) rfl rfl (Nat.le_of_ble_eq_true rfl) ?_
  intro pp ee ss mm args below meth cd Q ls hQ S hr hlocks hnt hv hB hl
  obtain ⟨hx, hb, hml, hown, hts⟩ := id S
  obtain ⟨⟨hP, hK⟩, hG⟩ := hB
  have hl : lv_has ls 3 [(0, .ref (q 0)), (1, .int (nI i)), (2, .int z)] := hl
  refine lv_aload_n hx hb dX0_possible_0 rfl (lv_at hl 0 rfl) ?_
  refine lv_iload_n hx hb dX0_possible_1 rfl (lv_at hl 1 rfl) ?_
  refine va_csv (W.runV (As := [.int (nI i)]) (rest := []) S (c_X0_requireArm hn (i := i) (by omega)) (cwV 1 hts gX0_possible_X0_requireArm rfl rfl rfl hdX0_requireArm ⟨Nat.le_of_ble_eq_true rfl, Nat.le_of_ble_eq_true rfl⟩) (preV hK hP rfl rfl) rfl rfl hl.1 rfl (lv_room (Nat.le_of_ble_eq_true rfl)) dX0_possible_2 ⟨Nat.zero_le _, Nat.zero_le _⟩) (fun _ => ?_)
  refine lv_aload_n hx hb dX0_possible_5 rfl (lv_at hl 0 rfl) ?_
  refine lv_iload_n hx hb dX0_possible_6 rfl (lv_at hl 2 rfl) ?_
  refine vx_callv (vx_runV (As := [.int z]) (rest := []) S (x_X0_requireArm hlt hn hbad) (cwV 1 hts gX0_possible_X0_requireArm rfl rfl rfl hdX0_requireArm ⟨Nat.le_of_ble_eq_true rfl, Nat.le_of_ble_eq_true rfl⟩) (preX hK hP hG rfl rfl) rfl rfl hl.1 rfl (lv_room (Nat.le_of_ble_eq_true rfl)) dX0_possible_7 ⟨Nat.le_of_ble_eq_true rfl, Nat.le_of_ble_eq_true rfl⟩) (va_S.rf (A := fun _ => False)) (fun _ _ h => h) (fun _ h => h) (fun _ _ h => h) (fun E ce q9 u t H1 locs1 ht hvm hpx hBX hz hk9 hS1 hcell hcv hcl => ?_) (fun u t H1 locs1 ht hvm hw _ _ _ _ => absurd hw id)
  subst hQ
  exact vx_out (fun x hx9 => (hnt x hx9).elim) hlocks hcell hcv hcl (fun t2 ht2 _ => ⟨(), trivial, hBX, hS1.F ht2⟩) hS1.2.2 (Nat.le_refl _) (Nat.le_refl _)
abbrev rxX0_sum : Room := { frames := 7, cells := 1, slots := 6, locals := 111 }
set_option maxHeartbeats 4000000 in
set_option maxRecDepth 100000 in
theorem x_X0_sum {l : Launch} (hlt : l.stackTraces = false) {sa : Nat → Nat} {D : va_G} {q : Nat → Nat} {cI cD : ClassId} {rC : Int32} {fi fo fw : Nat → Int32} {fe : Nat → UInt64} {ft fr fp fl : Nat → Int32} {ff : Nat → UInt64} {n : Nat} (hn : 3 ≤ n ∧ n ≤ 6) {y z : Int32} (hbad : armB n y = false) : vx_Met l yX0_sum wsX0_sum rxX0_sum (va_Pc [.ref (q 0), .int y, .int z] (xPre D (tys2 cI cD) (cW q cI cD (nI n) rC fi fo fw fe ft fr fp fl ff) sa)) (va_Qd (fun _ (_ : Unit) => False) (fun _ _ => True) (fun _ => False)) (xX eI) 1 6 (fun _ => False) := by
  refine xmet_intro (cc := cX0_sum) (maxL := 3) (ret := (some .double)) (own := RX0) (by decide) rfl rfl (Nat.le_of_ble_eq_true rfl) ?_
  intro pp ee ss mm args below meth cd Q ls hQ S hr hlocks hnt hv hB hl
  obtain ⟨hx, hb, hml, hown, hts⟩ := id S
  obtain ⟨⟨hP, hK⟩, hG⟩ := hB
  have hl : lv_has ls 3 [(0, .ref (q 0)), (1, .int y), (2, .int z)] := hl
  refine lv_aload_n hx hb dX0_sum_0 rfl (lv_at hl 0 rfl) ?_
  refine lv_iload_n hx hb dX0_sum_1 rfl (lv_at hl 1 rfl) ?_
  refine vx_callv (vx_runV (As := [.int y]) (rest := []) S (x_X0_requireArm hlt hn hbad) (cwV 1 hts gX0_sum_X0_requireArm rfl rfl rfl hdX0_requireArm ⟨Nat.le_of_ble_eq_true rfl, Nat.le_of_ble_eq_true rfl⟩) (preX hK hP hG rfl rfl) rfl rfl hl.1 rfl (lv_room (Nat.le_of_ble_eq_true rfl)) dX0_sum_2 ⟨Nat.le_of_ble_eq_true rfl, Nat.le_of_ble_eq_true rfl⟩) (va_S.rf (A := fun _ => False)) (fun _ _ h => h) (fun _ h => h) (fun _ _ h => h) (fun E ce q9 u t H1 locs1 ht hvm hpx hBX hz hk9 hS1 hcell hcv hcl => ?_) (fun u t H1 locs1 ht hvm hw _ _ _ _ => absurd hw id)
  subst hQ
  exact vx_out (fun x hx9 => (hnt x hx9).elim) hlocks hcell hcv hcl (fun t2 ht2 _ => ⟨(), trivial, hBX, hS1.F ht2⟩) hS1.2.2 (Nat.le_refl _) (Nat.le_refl _)
abbrev rxX0_crossRatio1 : Room := { frames := 7, cells := 1, slots := 6, locals := 111 }
set_option maxHeartbeats 4000000 in
set_option maxRecDepth 100000 in
theorem x_X0_crossRatio1 {l : Launch} (hlt : l.stackTraces = false) {sa : Nat → Nat} {D : va_G} {q : Nat → Nat} {cI cD : ClassId} {rC : Int32} {fi fo fw : Nat → Int32} {fe : Nat → UInt64} {ft fr fp fl : Nat → Int32} {ff : Nat → UInt64} {n : Nat} (hn : 3 ≤ n ∧ n ≤ 6) {x y z v : Int32} (hbad : armB n x = false) : vx_Met l yX0_crossRatio wsX0_crossRatio rxX0_crossRatio1 (va_Pc [.ref (q 0), .int x, .int y, .int z, .int v] (xPre D (tys2 cI cD) (cW q cI cD (nI n) rC fi fo fw fe ft fr fp fl ff) sa)) (va_Qd (fun _ (_ : Unit) => False) (fun _ _ => True) (fun _ => False)) (xX eI) 1 6 (fun _ => False) := by
  refine xmet_intro (cc := cX0_crossRatio) (maxL := 9) (ret := (some .double)) (own := RX0) (by decide) rfl rfl (Nat.le_of_ble_eq_true rfl) ?_
  intro pp ee ss mm args below meth cd Q ls hQ S hr hlocks hnt hv hB hl
  obtain ⟨hx, hb, hml, hown, hts⟩ := id S
  obtain ⟨⟨hP, hK⟩, hG⟩ := hB
  have hl : lv_has ls 9 [(0, .ref (q 0)), (1, .int x), (2, .int y), (3, .int z), (4, .int v)] := hl
  refine lv_aload_n hx hb dX0_crossRatio_0 rfl (lv_at hl 0 rfl) ?_
  refine lv_iload_n hx hb dX0_crossRatio_1 rfl (lv_at hl 1 rfl) ?_
  refine vx_callv (vx_runV (As := [.int x]) (rest := []) S (x_X0_requireArm hlt hn hbad) (cwV 1 hts gX0_crossRatio_X0_requireArm rfl rfl rfl hdX0_requireArm ⟨Nat.le_of_ble_eq_true rfl, Nat.le_of_ble_eq_true rfl⟩) (preX hK hP hG rfl rfl) rfl rfl hl.1 rfl (lv_room (Nat.le_of_ble_eq_true rfl)) dX0_crossRatio_2 ⟨Nat.le_of_ble_eq_true rfl, Nat.le_of_ble_eq_true rfl⟩) (va_S.rf (A := fun _ => False)) (fun _ _ h => h) (fun _ h => h) (fun _ _ h => h) (fun E ce q9 u t H1 locs1 ht hvm hpx hBX hz hk9 hS1 hcell hcv hcl => ?_) (fun u t H1 locs1 ht hvm hw _ _ _ _ => absurd hw id)
  subst hQ
  exact vx_out (fun x hx9 => (hnt x hx9).elim) hlocks hcell hcv hcl (fun t2 ht2 _ => ⟨(), trivial, hBX, hS1.F ht2⟩) hS1.2.2 (Nat.le_refl _) (Nat.le_refl _)
abbrev rxX0_crossRatio2 : Room := { frames := 7, cells := 1, slots := 6, locals := 111 }
set_option maxHeartbeats 4000000 in
set_option maxRecDepth 100000 in
theorem x_X0_crossRatio2 {l : Launch} (hlt : l.stackTraces = false) {sa : Nat → Nat} {D : va_G} {q : Nat → Nat} {cI cD : ClassId} {rC : Int32} {fi fo fw : Nat → Int32} {fe : Nat → UInt64} {ft fr fp fl : Nat → Int32} {ff : Nat → UInt64} {n : Nat} (hn : 3 ≤ n ∧ n ≤ 6) {a : Nat} {y z v : Int32} (ha : a < n) (hbad : armB n y = false) : vx_Met l yX0_crossRatio wsX0_crossRatio rxX0_crossRatio2 (va_Pc [.ref (q 0), .int (nI a), .int y, .int z, .int v] (xPre D (tys2 cI cD) (cW q cI cD (nI n) rC fi fo fw fe ft fr fp fl ff) sa)) (va_Qd (fun _ (_ : Unit) => False) (fun _ _ => True) (fun _ => False)) (xX eI) 1 6 (fun _ => False) := by
  refine xmet_intro (cc := cX0_crossRatio) (maxL := 9) (ret := (some .double)) (own := RX0) (by decide) rfl rfl (Nat.le_of_ble_eq_true rfl) ?_
  intro pp ee ss mm args below meth cd Q ls hQ S hr hlocks hnt hv hB hl
  obtain ⟨hx, hb, hml, hown, hts⟩ := id S
  obtain ⟨⟨hP, hK⟩, hG⟩ := hB
  have hl : lv_has ls 9 [(0, .ref (q 0)), (1, .int (nI a)), (2, .int y), (3, .int z), (4, .int v)] := hl
  refine lv_aload_n hx hb dX0_crossRatio_0 rfl (lv_at hl 0 rfl) ?_
  refine lv_iload_n hx hb dX0_crossRatio_1 rfl (lv_at hl 1 rfl) ?_
  refine va_csv (W.runV (As := [.int (nI a)]) (rest := []) S (c_X0_requireArm hn (i := a) (by omega)) (cwV 1 hts gX0_crossRatio_X0_requireArm rfl rfl rfl hdX0_requireArm ⟨Nat.le_of_ble_eq_true rfl, Nat.le_of_ble_eq_true rfl⟩) (preV hK hP rfl rfl) rfl rfl hl.1 rfl (lv_room (Nat.le_of_ble_eq_true rfl)) dX0_crossRatio_2 ⟨Nat.zero_le _, Nat.zero_le _⟩) (fun _ => ?_)
  refine lv_aload_n hx hb dX0_crossRatio_5 rfl (lv_at hl 0 rfl) ?_
  refine lv_iload_n hx hb dX0_crossRatio_6 rfl (lv_at hl 2 rfl) ?_
  refine vx_callv (vx_runV (As := [.int y]) (rest := []) S (x_X0_requireArm hlt hn hbad) (cwV 1 hts gX0_crossRatio_X0_requireArm rfl rfl rfl hdX0_requireArm ⟨Nat.le_of_ble_eq_true rfl, Nat.le_of_ble_eq_true rfl⟩) (preX hK hP hG rfl rfl) rfl rfl hl.1 rfl (lv_room (Nat.le_of_ble_eq_true rfl)) dX0_crossRatio_7 ⟨Nat.le_of_ble_eq_true rfl, Nat.le_of_ble_eq_true rfl⟩) (va_S.rf (A := fun _ => False)) (fun _ _ h => h) (fun _ h => h) (fun _ _ h => h) (fun E ce q9 u t H1 locs1 ht hvm hpx hBX hz hk9 hS1 hcell hcv hcl => ?_) (fun u t H1 locs1 ht hvm hw _ _ _ _ => absurd hw id)
  subst hQ
  exact vx_out (fun x hx9 => (hnt x hx9).elim) hlocks hcell hcv hcl (fun t2 ht2 _ => ⟨(), trivial, hBX, hS1.F ht2⟩) hS1.2.2 (Nat.le_refl _) (Nat.le_refl _)
abbrev rxX0_crossRatio3 : Room := { frames := 7, cells := 1, slots := 6, locals := 111 }
set_option maxHeartbeats 4000000 in
set_option maxRecDepth 100000 in
theorem x_X0_crossRatio3 {l : Launch} (hlt : l.stackTraces = false) {sa : Nat → Nat} {D : va_G} {q : Nat → Nat} {cI cD : ClassId} {rC : Int32} {fi fo fw : Nat → Int32} {fe : Nat → UInt64} {ft fr fp fl : Nat → Int32} {ff : Nat → UInt64} {n : Nat} (hn : 3 ≤ n ∧ n ≤ 6) {a b : Nat} {z v : Int32} (ha : a < n) (hb' : b < n) (hbad : armB n z = false) : vx_Met l yX0_crossRatio wsX0_crossRatio rxX0_crossRatio3 (va_Pc [.ref (q 0), .int (nI a), .int (nI b), .int z, .int v] (xPre D (tys2 cI cD) (cW q cI cD (nI n) rC fi fo fw fe ft fr fp fl ff) sa)) (va_Qd (fun _ (_ : Unit) => False) (fun _ _ => True) (fun _ => False)) (xX eI) 1 6 (fun _ => False) := by
  refine xmet_intro (cc := cX0_crossRatio) (maxL := 9) (ret := (some .double)) (own := RX0) (by decide) rfl rfl (Nat.le_of_ble_eq_true rfl) ?_
  intro pp ee ss mm args below meth cd Q ls hQ S hr hlocks hnt hv hB hl
  obtain ⟨hx, hb, hml, hown, hts⟩ := id S
  obtain ⟨⟨hP, hK⟩, hG⟩ := hB
  have hl : lv_has ls 9 [(0, .ref (q 0)), (1, .int (nI a)), (2, .int (nI b)), (3, .int z), (4, .int v)] := hl
  refine lv_aload_n hx hb dX0_crossRatio_0 rfl (lv_at hl 0 rfl) ?_
  refine lv_iload_n hx hb dX0_crossRatio_1 rfl (lv_at hl 1 rfl) ?_
  refine va_csv (W.runV (As := [.int (nI a)]) (rest := []) S (c_X0_requireArm hn (i := a) (by omega)) (cwV 1 hts gX0_crossRatio_X0_requireArm rfl rfl rfl hdX0_requireArm ⟨Nat.le_of_ble_eq_true rfl, Nat.le_of_ble_eq_true rfl⟩) (preV hK hP rfl rfl) rfl rfl hl.1 rfl (lv_room (Nat.le_of_ble_eq_true rfl)) dX0_crossRatio_2 ⟨Nat.zero_le _, Nat.zero_le _⟩) (fun _ => ?_)
  refine lv_aload_n hx hb dX0_crossRatio_5 rfl (lv_at hl 0 rfl) ?_
  refine lv_iload_n hx hb dX0_crossRatio_6 rfl (lv_at hl 2 rfl) ?_
  refine va_csv (W.runV (As := [.int (nI b)]) (rest := []) S (c_X0_requireArm hn (i := b) (by omega)) (cwV 1 hts gX0_crossRatio_X0_requireArm rfl rfl rfl hdX0_requireArm ⟨Nat.le_of_ble_eq_true rfl, Nat.le_of_ble_eq_true rfl⟩) (preV hK hP rfl rfl) rfl rfl hl.1 rfl (lv_room (Nat.le_of_ble_eq_true rfl)) dX0_crossRatio_7 ⟨Nat.zero_le _, Nat.zero_le _⟩) (fun _ => ?_)
  refine lv_aload_n hx hb dX0_crossRatio_10 rfl (lv_at hl 0 rfl) ?_
  refine lv_iload_n hx hb dX0_crossRatio_11 rfl (lv_at hl 3 rfl) ?_
  refine vx_callv (vx_runV (As := [.int z]) (rest := []) S (x_X0_requireArm hlt hn hbad) (cwV 1 hts gX0_crossRatio_X0_requireArm rfl rfl rfl hdX0_requireArm ⟨Nat.le_of_ble_eq_true rfl, Nat.le_of_ble_eq_true rfl⟩) (preX hK hP hG rfl rfl) rfl rfl hl.1 rfl (lv_room (Nat.le_of_ble_eq_true rfl)) dX0_crossRatio_12 ⟨Nat.le_of_ble_eq_true rfl, Nat.le_of_ble_eq_true rfl⟩) (va_S.rf (A := fun _ => False)) (fun _ _ h => h) (fun _ h => h) (fun _ _ h => h) (fun E ce q9 u t H1 locs1 ht hvm hpx hBX hz hk9 hS1 hcell hcv hcl => ?_) (fun u t H1 locs1 ht hvm hw _ _ _ _ => absurd hw id)
  subst hQ
  exact vx_out (fun x hx9 => (hnt x hx9).elim) hlocks hcell hcv hcl (fun t2 ht2 _ => ⟨(), trivial, hBX, hS1.F ht2⟩) hS1.2.2 (Nat.le_refl _) (Nat.le_refl _)
abbrev rxX0_crossRatio4 : Room := { frames := 7, cells := 1, slots := 6, locals := 111 }
set_option maxHeartbeats 4000000 in
set_option maxRecDepth 100000 in
theorem x_X0_crossRatio4 {l : Launch} (hlt : l.stackTraces = false) {sa : Nat → Nat} {D : va_G} {q : Nat → Nat} {cI cD : ClassId} {rC : Int32} {fi fo fw : Nat → Int32} {fe : Nat → UInt64} {ft fr fp fl : Nat → Int32} {ff : Nat → UInt64} {n : Nat} (hn : 3 ≤ n ∧ n ≤ 6) {a b c : Nat} {v : Int32} (ha : a < n) (hb' : b < n) (hc : c < n) (hbad : armB n v = false) : vx_Met l yX0_crossRatio wsX0_crossRatio rxX0_crossRatio4 (va_Pc [.ref (q 0), .int (nI a), .int (nI b), .int (nI c), .int v] (xPre D (tys2 cI cD) (cW q cI cD (nI n) rC fi fo fw fe ft fr fp fl ff) sa)) (va_Qd (fun _ (_ : Unit) => False) (fun _ _ => True) (fun _ => False)) (xX eI) 1 6 (fun _ => False) := by
  refine xmet_intro (cc := cX0_crossRatio) (maxL := 9) (ret := (some .double)) (own := RX0) (by decide) rfl rfl (Nat.le_of_ble_eq_true rfl) ?_
  intro pp ee ss mm args below meth cd Q ls hQ S hr hlocks hnt hv hB hl
  obtain ⟨hx, hb, hml, hown, hts⟩ := id S
  obtain ⟨⟨hP, hK⟩, hG⟩ := hB
  have hl : lv_has ls 9 [(0, .ref (q 0)), (1, .int (nI a)), (2, .int (nI b)), (3, .int (nI c)), (4, .int v)] := hl
  refine lv_aload_n hx hb dX0_crossRatio_0 rfl (lv_at hl 0 rfl) ?_
  refine lv_iload_n hx hb dX0_crossRatio_1 rfl (lv_at hl 1 rfl) ?_
  refine va_csv (W.runV (As := [.int (nI a)]) (rest := []) S (c_X0_requireArm hn (i := a) (by omega)) (cwV 1 hts gX0_crossRatio_X0_requireArm rfl rfl rfl hdX0_requireArm ⟨Nat.le_of_ble_eq_true rfl, Nat.le_of_ble_eq_true rfl⟩) (preV hK hP rfl rfl) rfl rfl hl.1 rfl (lv_room (Nat.le_of_ble_eq_true rfl)) dX0_crossRatio_2 ⟨Nat.zero_le _, Nat.zero_le _⟩) (fun _ => ?_)
  refine lv_aload_n hx hb dX0_crossRatio_5 rfl (lv_at hl 0 rfl) ?_
  refine lv_iload_n hx hb dX0_crossRatio_6 rfl (lv_at hl 2 rfl) ?_
  refine va_csv (W.runV (As := [.int (nI b)]) (rest := []) S (c_X0_requireArm hn (i := b) (by omega)) (cwV 1 hts gX0_crossRatio_X0_requireArm rfl rfl rfl hdX0_requireArm ⟨Nat.le_of_ble_eq_true rfl, Nat.le_of_ble_eq_true rfl⟩) (preV hK hP rfl rfl) rfl rfl hl.1 rfl (lv_room (Nat.le_of_ble_eq_true rfl)) dX0_crossRatio_7 ⟨Nat.zero_le _, Nat.zero_le _⟩) (fun _ => ?_)
  refine lv_aload_n hx hb dX0_crossRatio_10 rfl (lv_at hl 0 rfl) ?_
  refine lv_iload_n hx hb dX0_crossRatio_11 rfl (lv_at hl 3 rfl) ?_
  refine va_csv (W.runV (As := [.int (nI c)]) (rest := []) S (c_X0_requireArm hn (i := c) (by omega)) (cwV 1 hts gX0_crossRatio_X0_requireArm rfl rfl rfl hdX0_requireArm ⟨Nat.le_of_ble_eq_true rfl, Nat.le_of_ble_eq_true rfl⟩) (preV hK hP rfl rfl) rfl rfl hl.1 rfl (lv_room (Nat.le_of_ble_eq_true rfl)) dX0_crossRatio_12 ⟨Nat.zero_le _, Nat.zero_le _⟩) (fun _ => ?_)
  refine lv_aload_n hx hb dX0_crossRatio_15 rfl (lv_at hl 0 rfl) ?_
  refine lv_iload hx hb dX0_crossRatio_16 (lv_at hl 4 rfl) ?_
  refine vx_callv (vx_runV (As := [.int v]) (rest := []) S (x_X0_requireArm hlt hn hbad) (cwV 1 hts gX0_crossRatio_X0_requireArm rfl rfl rfl hdX0_requireArm ⟨Nat.le_of_ble_eq_true rfl, Nat.le_of_ble_eq_true rfl⟩) (preX hK hP hG rfl rfl) rfl rfl hl.1 rfl (lv_room (Nat.le_of_ble_eq_true rfl)) dX0_crossRatio_18 ⟨Nat.le_of_ble_eq_true rfl, Nat.le_of_ble_eq_true rfl⟩) (va_S.rf (A := fun _ => False)) (fun _ _ h => h) (fun _ h => h) (fun _ _ h => h) (fun E ce q9 u t H1 locs1 ht hvm hpx hBX hz hk9 hS1 hcell hcv hcl => ?_) (fun u t H1 locs1 ht hvm hw _ _ _ _ => absurd hw id)
  subst hQ
  exact vx_out (fun x hx9 => (hnt x hx9).elim) hlocks hcell hcv hcl (fun t2 ht2 _ => ⟨(), trivial, hBX, hS1.F ht2⟩) hS1.2.2 (Nat.le_refl _) (Nat.le_refl _)
abbrev rxX0_crossRatio5 : Room := { frames := 6, cells := 1, slots := 6, locals := 90 }
set_option maxHeartbeats 4000000 in
set_option maxRecDepth 100000 in
theorem x_X0_crossRatio5 {l : Launch} (hlt : l.stackTraces = false) {sa : Nat → Nat} {D : va_G} {q : Nat → Nat} {cI cD : ClassId} {rC : Int32} {fi fo fw : Nat → Int32} {fe : Nat → UInt64} {ft fr fp fl : Nat → Int32} {ff : Nat → UInt64} {n : Nat} (hn : 3 ≤ n ∧ n ≤ 6) {e : Nat → Nat → UInt64} (hE : ag2 n fe e) {a b c d : Nat} (ha : a < n) (hb' : b < n) (hc : c < n) (hd : d < n) (h1 : vf_n64 (FP.dmul (e a c) (e b d))) (h2 : vf_n64 (FP.dmul (e a d) (e b c))) (hs : dgt (FP.dmul (e a d) (e b c)) FP.dconst0 = false) : vx_Met l yX0_crossRatio wsX0_crossRatio rxX0_crossRatio5 (va_Pc [.ref (q 0), .int (nI a), .int (nI b), .int (nI c), .int (nI d)] (xPre D (tys2 cI cD) (cW q cI cD (nI n) rC fi fo fw fe ft fr fp fl ff) sa)) (va_Qd (fun _ (_ : Unit) => False) (fun _ _ => True) (fun _ => False)) (xX eR) 1 6 (fun _ => False) := by
  refine xmet_intro (cc := cX0_crossRatio) (maxL := 9) (ret := (some .double)) (own := RX0) (by decide) rfl rfl (Nat.le_of_ble_eq_true rfl) ?_
  intro pp ee ss mm args below meth cd Q ls hQ S hr hlocks hnt hv hB hl
  obtain ⟨hx, hb, hml, hown, hts⟩ := id S
  obtain ⟨⟨hP, hK⟩, hG⟩ := hB
  have in_w : ∀ w ∈ wsX00, w ∈ wsX0_crossRatio := by decide +kernel
  have fl_19 : Cond.fieldLink RX0 19 RX0 (TX0 3).2.1 (TX0 3).2.2.1 ∈ wsX0_crossRatio := by decide +kernel
  have hl : lv_has ls 9 [(0, .ref (q 0)), (1, .int (nI a)), (2, .int (nI b)), (3, .int (nI c)), (4, .int (nI d))] := hl
  refine lv_aload_n hx hb dX0_crossRatio_0 rfl (lv_at hl 0 rfl) ?_
  refine lv_iload_n hx hb dX0_crossRatio_1 rfl (lv_at hl 1 rfl) ?_
  refine va_csv (W.runV (As := [.int (nI a)]) (rest := []) S (c_X0_requireArm hn (i := a) (by omega)) (cwV 1 hts gX0_crossRatio_X0_requireArm rfl rfl rfl hdX0_requireArm ⟨Nat.le_of_ble_eq_true rfl, Nat.le_of_ble_eq_true rfl⟩) (preV hK hP rfl rfl) rfl rfl hl.1 rfl (lv_room (Nat.le_of_ble_eq_true rfl)) dX0_crossRatio_2 ⟨Nat.zero_le _, Nat.zero_le _⟩) (fun _ => ?_)
  refine lv_aload_n hx hb dX0_crossRatio_5 rfl (lv_at hl 0 rfl) ?_
  refine lv_iload_n hx hb dX0_crossRatio_6 rfl (lv_at hl 2 rfl) ?_
  refine va_csv (W.runV (As := [.int (nI b)]) (rest := []) S (c_X0_requireArm hn (i := b) (by omega)) (cwV 1 hts gX0_crossRatio_X0_requireArm rfl rfl rfl hdX0_requireArm ⟨Nat.le_of_ble_eq_true rfl, Nat.le_of_ble_eq_true rfl⟩) (preV hK hP rfl rfl) rfl rfl hl.1 rfl (lv_room (Nat.le_of_ble_eq_true rfl)) dX0_crossRatio_7 ⟨Nat.zero_le _, Nat.zero_le _⟩) (fun _ => ?_)
  refine lv_aload_n hx hb dX0_crossRatio_10 rfl (lv_at hl 0 rfl) ?_
  refine lv_iload_n hx hb dX0_crossRatio_11 rfl (lv_at hl 3 rfl) ?_
  refine va_csv (W.runV (As := [.int (nI c)]) (rest := []) S (c_X0_requireArm hn (i := c) (by omega)) (cwV 1 hts gX0_crossRatio_X0_requireArm rfl rfl rfl hdX0_requireArm ⟨Nat.le_of_ble_eq_true rfl, Nat.le_of_ble_eq_true rfl⟩) (preV hK hP rfl rfl) rfl rfl hl.1 rfl (lv_room (Nat.le_of_ble_eq_true rfl)) dX0_crossRatio_12 ⟨Nat.zero_le _, Nat.zero_le _⟩) (fun _ => ?_)
  refine lv_aload_n hx hb dX0_crossRatio_15 rfl (lv_at hl 0 rfl) ?_
  refine lv_iload hx hb dX0_crossRatio_16 (lv_at hl 4 rfl) ?_
  refine va_csv (W.runV (As := [.int (nI d)]) (rest := []) S (c_X0_requireArm hn (i := d) (by omega)) (cwV 1 hts gX0_crossRatio_X0_requireArm rfl rfl rfl hdX0_requireArm ⟨Nat.le_of_ble_eq_true rfl, Nat.le_of_ble_eq_true rfl⟩) (preV hK hP rfl rfl) rfl rfl hl.1 rfl (lv_room (Nat.le_of_ble_eq_true rfl)) dX0_crossRatio_18 ⟨Nat.zero_le _, Nat.zero_le _⟩) (fun _ => ?_)
  refine lv_aload_n hx hb dX0_crossRatio_21 rfl (lv_at hl 0 rfl) ?_
  refine w_getC (own := RX0) (v := .ref (q 4)) S in_w hK hP rfl 3 (by decide) fl_19 rfl rfl dX0_crossRatio_22 ?_
  refine lv_iload_n hx hb dX0_crossRatio_25 rfl (lv_at hl 1 rfl) ?_
  refine lv_iload_n hx hb dX0_crossRatio_26 rfl (lv_at hl 3 rfl) ?_
  refine vp_callSi (W.runS (As := [.int (nI a), .int (nI c)]) (rest := [.ref (q 4)]) S (c_X0_turn (i := a) (k := c)) (va_cwS 2 hts gX0_crossRatio_X0_turn rfl rfl rfl hdX0_turn ⟨Nat.le_of_ble_eq_true rfl, Nat.le_of_ble_eq_true rfl⟩) preS rfl rfl hl.1 rfl (lv_room (Nat.le_of_ble_eq_true rfl)) dX0_crossRatio_27 ⟨Nat.zero_le _, Nat.zero_le _⟩) (fun r_1 er_1 => ?_)
  subst er_1
  refine w_dald hx hb hK hP 4 1 rfl rfl (j := 6 * a + c) (v := e a c) (hE a c (by omega) (by omega)) (by omega) (by decide) dX0_crossRatio_30 ?_
  refine lv_aload_n hx hb dX0_crossRatio_31 rfl (lv_at hl 0 rfl) ?_
  refine w_getC (own := RX0) (v := .ref (q 4)) S in_w hK hP rfl 3 (by decide) fl_19 rfl rfl dX0_crossRatio_32 ?_
  refine lv_iload_n hx hb dX0_crossRatio_35 rfl (lv_at hl 2 rfl) ?_
  refine lv_iload hx hb dX0_crossRatio_36 (lv_at hl 4 rfl) ?_
  refine vp_callSi (W.runS (As := [.int (nI b), .int (nI d)]) (rest := [.ref (q 4), .double (e a c)]) S (c_X0_turn (i := b) (k := d)) (va_cwS 2 hts gX0_crossRatio_X0_turn rfl rfl rfl hdX0_turn ⟨Nat.le_of_ble_eq_true rfl, Nat.le_of_ble_eq_true rfl⟩) preS rfl rfl hl.1 rfl (lv_room (Nat.le_of_ble_eq_true rfl)) dX0_crossRatio_38 ⟨Nat.zero_le _, Nat.zero_le _⟩) (fun r_2 er_2 => ?_)
  subst er_2
  refine w_dald hx hb hK hP 4 1 rfl rfl (j := 6 * b + d) (v := e b d) (hE b d (by omega) (by omega)) (by omega) (by decide) dX0_crossRatio_41 ?_
  refine lv_dmul hx hb dX0_crossRatio_42 h1 ?_
  refine lv_dstore (lv' := [(5, .double (FP.dmul (e a c) (e b d))), (0, .ref (q 0)), (1, .int (nI a)), (2, .int (nI b)), (3, .int (nI c)), (4, .int (nI d))]) hx hb dX0_crossRatio_43 hl (by decide) rfl (fun ls hl => ?_)
  refine lv_aload_n hx hb dX0_crossRatio_45 rfl (lv_at hl 1 rfl) ?_
  refine w_getC (own := RX0) (v := .ref (q 4)) S in_w hK hP rfl 3 (by decide) fl_19 rfl rfl dX0_crossRatio_46 ?_
  refine lv_iload_n hx hb dX0_crossRatio_49 rfl (lv_at hl 2 rfl) ?_
  refine lv_iload hx hb dX0_crossRatio_50 (lv_at hl 5 rfl) ?_
  refine vp_callSi (W.runS (As := [.int (nI a), .int (nI d)]) (rest := [.ref (q 4)]) S (c_X0_turn (i := a) (k := d)) (va_cwS 2 hts gX0_crossRatio_X0_turn rfl rfl rfl hdX0_turn ⟨Nat.le_of_ble_eq_true rfl, Nat.le_of_ble_eq_true rfl⟩) preS rfl rfl hl.1 rfl (lv_room (Nat.le_of_ble_eq_true rfl)) dX0_crossRatio_52 ⟨Nat.zero_le _, Nat.zero_le _⟩) (fun r_3 er_3 => ?_)
  subst er_3
  refine w_dald hx hb hK hP 4 1 rfl rfl (j := 6 * a + d) (v := e a d) (hE a d (by omega) (by omega)) (by omega) (by decide) dX0_crossRatio_55 ?_
  refine lv_aload_n hx hb dX0_crossRatio_56 rfl (lv_at hl 1 rfl) ?_
  refine w_getC (own := RX0) (v := .ref (q 4)) S in_w hK hP rfl 3 (by decide) fl_19 rfl rfl dX0_crossRatio_57 ?_
  refine lv_iload_n hx hb dX0_crossRatio_60 rfl (lv_at hl 3 rfl) ?_
  refine lv_iload_n hx hb dX0_crossRatio_61 rfl (lv_at hl 4 rfl) ?_
  refine vp_callSi (W.runS (As := [.int (nI b), .int (nI c)]) (rest := [.ref (q 4), .double (e a d)]) S (c_X0_turn (i := b) (k := c)) (va_cwS 2 hts gX0_crossRatio_X0_turn rfl rfl rfl hdX0_turn ⟨Nat.le_of_ble_eq_true rfl, Nat.le_of_ble_eq_true rfl⟩) preS rfl rfl hl.1 rfl (lv_room (Nat.le_of_ble_eq_true rfl)) dX0_crossRatio_62 ⟨Nat.zero_le _, Nat.zero_le _⟩) (fun r_4 er_4 => ?_)
  subst er_4
  refine w_dald hx hb hK hP 4 1 rfl rfl (j := 6 * b + c) (v := e b c) (hE b c (by omega) (by omega)) (by omega) (by decide) dX0_crossRatio_65 ?_
  refine lv_dmul hx hb dX0_crossRatio_66 h2 ?_
  refine lv_dstore (lv' := [(7, .double (FP.dmul (e a d) (e b c))), (5, .double (FP.dmul (e a c) (e b d))), (0, .ref (q 0)), (1, .int (nI a)), (2, .int (nI b)), (3, .int (nI c)), (4, .int (nI d))]) hx hb dX0_crossRatio_67 hl (by decide) rfl (fun ls hl => ?_)
  refine lv_dload hx hb dX0_crossRatio_69 (lv_at hl 0 rfl) ?_
  refine lv_dconst0 hx hb dX0_crossRatio_71 ?_
  refine w_dgtT (tgt := 86) hx hb dX0_crossRatio_72 dX0_crossRatio_73 (by decide) (fun h72_0 => absurd (hs) (by rw [h72_0]; decide)) (fun h72_0 => ?_)
  subst hQ
  exact vx_throwS (own := RX0) (cls := eR) (text := "the second product is not greater than 0.0") (names := eN) (ik := 116) (is := 118) (ic := 120) (A := fun _ => False) hx hb hlt hown (by decide +kernel) (by decide +kernel) (hts (.classLink RX0 116 eR) (by decide +kernel)) (hts (.initialized eR) (by decide +kernel)) hG.2.1.2.2.2 (vx_hat (L := vx_atS RX0 120 eR eN) (B := xWs) (fun w hw => hts w ((show ∀ w ∈ (vx_atS RX0 120 eR eN).filter goodWord, w ∈ wsX0_crossRatio from by decide +kernel) w hw)) (by decide +kernel) (xW_use hG.2.2.1)) (by decide +kernel) hG.1.1 hG.1.2 va_S.rf (hl.1.trans hml.symm) dX0_crossRatio_76 dX0_crossRatio_79 dX0_crossRatio_80 dX0_crossRatio_82 dX0_crossRatio_85 (fun x hx9 => (hnt x hx9).elim) (Nat.le_of_ble_eq_true rfl) (Nat.le_of_ble_eq_true rfl) (Nat.le_of_ble_eq_true rfl) (Nat.le_of_ble_eq_true rfl) hlocks (fun t _ h1 h2 => ⟨(), trivial, rfl, ⟨h1, fun q hq _ => h2 q hq⟩⟩) (fun z hz => absurd hz List.not_mem_nil) (Nat.le_refl _) (Nat.le_refl _)
abbrev rxX0_scale2 : Room := { frames := 7, cells := 1, slots := 6, locals := 111 }
set_option maxHeartbeats 4000000 in
set_option maxRecDepth 100000 in
theorem x_X0_scale2 {l : Launch} (hlt : l.stackTraces = false) {sa : Nat → Nat} {D : va_G} {q : Nat → Nat} {cI cD : ClassId} {rC : Int32} {fi fo fw : Nat → Int32} {fe : Nat → UInt64} {ft fr fp fl : Nat → Int32} {ff : Nat → UInt64} {n : Nat} (hn : 3 ≤ n ∧ n ≤ 6) {inf : Nat → Int32} (hI : ag1 n fi inf) {out : Nat → Int32} (hO : ag1 n fo out) {x : Int32} (hok : wth x (nI 0) (nI 300) = true) (hsl : slB inf out x n = false) : vx_Met l yX0_scale wsX0_scale rxX0_scale2 (va_Pc [.ref (q 0), .int x] (xPre D (tys2 cI cD) (cW q cI cD (nI n) rC fi fo fw fe ft fr fp fl ff) sa)) (va_Qi (fun _ (_ : Unit) => False) (fun _ _ => True) (fun _ => False)) (xX eS) 1 6 (fun _ => False) := by
  refine xmet_intro (cc := cX0_scale) (maxL := 3) (ret := (some .int)) (own := RX0) (by decide) rfl rfl (Nat.le_of_ble_eq_true rfl) ?_
  intro pp ee ss mm args below meth cd Q ls hQ S hr hlocks hnt hv hB hl
  obtain ⟨hx, hb, hml, hown, hts⟩ := id S
  obtain ⟨⟨hP, hK⟩, hG⟩ := hB
  have in_w : ∀ w ∈ wsX00, w ∈ wsX0_scale := by decide +kernel
  have fl_9 : Cond.fieldLink RX0 9 RX0 (TX0 0).2.1 (TX0 0).2.2.1 ∈ wsX0_scale := by decide +kernel
  have fl_13 : Cond.fieldLink RX0 13 RX0 (TX0 1).2.1 (TX0 1).2.2.1 ∈ wsX0_scale := by decide +kernel
  have fl_46 : Cond.fieldLink RX0 46 RX0 (TX0 9).2.1 (TX0 9).2.2.1 ∈ wsX0_scale := by decide +kernel
  have hl : lv_has ls 3 [(0, .ref (q 0)), (1, .int x)] := hl
  refine lv_iload_n hx hb dX0_scale_0 rfl (lv_at hl 1 rfl) ?_
  refine lv_iconst (v := nI 0) hx hb dX0_scale_1 (by decide) ?_
  refine lv_sipush (v := nI 300) hx hb dX0_scale_2 (by decide) ?_
  refine va_csv (W.runS (As := [.int x, .int (nI 0), .int (nI 300)]) (rest := []) S (c_X0_requireWithin (wth_t1 hok) (wth_t2 hok)) (va_cwS 3 hts gX0_scale_X0_requireWithin rfl rfl rfl hdX0_requireWithin ⟨Nat.le_of_ble_eq_true rfl, Nat.le_of_ble_eq_true rfl⟩) preS rfl rfl hl.1 rfl (lv_room (Nat.le_of_ble_eq_true rfl)) dX0_scale_5 ⟨Nat.zero_le _, Nat.zero_le _⟩) (fun _ => ?_)
  refine lv_iconst (v := nI 0) hx hb dX0_scale_8 (by decide) ?_
  refine lv_istore_n (lv' := [(2, .int (nI 0)), (0, .ref (q 0)), (1, .int x)]) hx hb dX0_scale_9 rfl hl (by decide) rfl (fun ls hl => ?_)
  have lp10 : ∀ (j k : Nat), k + j = n → (slB inf out x k = true) → ∀ ls : Array Slot, lv_has ls 3 [(0, .ref (q 0)), (1, .int x), (2, .int (nI k))] → W pp l ee rxX0_scale2 ss mm args below meth cd ss.heap [] 0 0 Q (F0 mm 10 ls []) := by
    intro j
    induction j with
    | zero =>
      intro k hk_k hb9 ls hl
      have hke_k : n = k := by omega
      subst hke_k
      exact absurd hb9 (by rw [hsl]; decide)
    | succ j ih =>
      intro k hk_k hb9 ls hl
      have hlt_k : k < n := by omega
      refine lv_iload_n hx hb dX0_scale_10 rfl (lv_at hl 2 rfl) ?_
      refine lv_aload_n hx hb dX0_scale_11 rfl (lv_at hl 0 rfl) ?_
      refine w_getC (own := RX0) (v := .int (nI n)) S in_w hK hP rfl 9 (by decide) fl_46 rfl rfl dX0_scale_12 ?_
      refine lv_icmp_ge (tgt := 44) hx hb dX0_scale_15 (by decide) (fun h15_0 => absurd h15_0 (nI_ge hlt_k (by omega))) (fun h15_0 => ?_)
      refine lv_aload_n hx hb dX0_scale_18 rfl (lv_at hl 0 rfl) ?_
      refine w_getC (own := RX0) (v := .ref (q 1)) S in_w hK hP rfl 0 (by decide) fl_9 rfl rfl dX0_scale_19 ?_
      refine lv_iload_n hx hb dX0_scale_22 rfl (lv_at hl 2 rfl) ?_
      refine w_iald hx hb hK hP 1 0 rfl rfl (j := k) (v := inf k) (hI k (by omega)) (by omega) (by decide) dX0_scale_23 ?_
      refine lv_iload_n hx hb dX0_scale_24 rfl (lv_at hl 1 rfl) ?_
      by_cases hc25 : scl (inf k) x ≤ nI 9999
      · refine va_csv (W.runS (As := [.int (inf k), .int x]) (rest := []) S (c_X0_requireScalable hc25) (va_cwS 2 hts gX0_scale_X0_requireScalable rfl rfl rfl hdX0_requireScalable ⟨Nat.le_of_ble_eq_true rfl, Nat.le_of_ble_eq_true rfl⟩) preS rfl rfl hl.1 rfl (lv_room (Nat.le_of_ble_eq_true rfl)) dX0_scale_25 ⟨Nat.zero_le _, Nat.zero_le _⟩) (fun _ => ?_)
        refine lv_aload_n hx hb dX0_scale_28 rfl (lv_at hl 0 rfl) ?_
        refine w_getC (own := RX0) (v := .ref (q 2)) S in_w hK hP rfl 1 (by decide) fl_13 rfl rfl dX0_scale_29 ?_
        refine lv_iload_n hx hb dX0_scale_32 rfl (lv_at hl 2 rfl) ?_
        refine w_iald hx hb hK hP 2 0 rfl rfl (j := k) (v := out k) (hO k (by omega)) (by omega) (by decide) dX0_scale_33 ?_
        refine lv_iload_n hx hb dX0_scale_34 rfl (lv_at hl 1 rfl) ?_
        by_cases hc35 : scl (out k) x ≤ nI 9999
        · refine va_csv (W.runS (As := [.int (out k), .int x]) (rest := []) S (c_X0_requireScalable hc35) (va_cwS 2 hts gX0_scale_X0_requireScalable rfl rfl rfl hdX0_requireScalable ⟨Nat.le_of_ble_eq_true rfl, Nat.le_of_ble_eq_true rfl⟩) preS rfl rfl hl.1 rfl (lv_room (Nat.le_of_ble_eq_true rfl)) dX0_scale_35 ⟨Nat.zero_le _, Nat.zero_le _⟩) (fun _ => ?_)
          refine lv_iinc (v := nI (k + 1)) (lv' := [(2, .int (nI (k + 1))), (0, .ref (q 0)), (1, .int x)]) hx hb dX0_scale_38 hl (k := 2) rfl (by rw [show Int32.ofInt 1 = nI 1 from by decide, nI_add]) (by decide) rfl (fun ls hl => ?_)
          refine lv_goto (tgt := 10) hx hb dX0_scale_41 (by decide) ?_
          exact ih (k + 1) (by omega) (slB_s hb9 hc25 hc35) ls (lv_sub hl [1, 2, 0] rfl)
        · refine vx_callv (vx_runS (As := [.int (out k), .int x]) (rest := []) S (x_X0_requireScalable hlt hc35) (va_cwS 2 hts gX0_scale_X0_requireScalable rfl rfl rfl hdX0_requireScalable ⟨Nat.le_of_ble_eq_true rfl, Nat.le_of_ble_eq_true rfl⟩) (preY hG) rfl rfl hl.1 rfl (lv_room (Nat.le_of_ble_eq_true rfl)) dX0_scale_35 ⟨Nat.le_of_ble_eq_true rfl, Nat.le_of_ble_eq_true rfl⟩) (va_S.rf (A := fun _ => False)) (fun _ _ h => h) (fun _ h => h) (fun _ _ h => h) (fun E ce q9 u t H1 locs1 ht hvm hpx hBX hz hk9 hS1 hcell hcv hcl => ?_) (fun u t H1 locs1 ht hvm hw _ _ _ _ => absurd hw id)
          subst hQ
          exact vx_out (fun x hx9 => (hnt x hx9).elim) hlocks hcell hcv hcl (fun t2 ht2 _ => ⟨(), trivial, hBX, hS1.F ht2⟩) hS1.2.2 (Nat.le_refl _) (Nat.le_refl _)
      · refine vx_callv (vx_runS (As := [.int (inf k), .int x]) (rest := []) S (x_X0_requireScalable hlt hc25) (va_cwS 2 hts gX0_scale_X0_requireScalable rfl rfl rfl hdX0_requireScalable ⟨Nat.le_of_ble_eq_true rfl, Nat.le_of_ble_eq_true rfl⟩) (preY hG) rfl rfl hl.1 rfl (lv_room (Nat.le_of_ble_eq_true rfl)) dX0_scale_25 ⟨Nat.le_of_ble_eq_true rfl, Nat.le_of_ble_eq_true rfl⟩) (va_S.rf (A := fun _ => False)) (fun _ _ h => h) (fun _ h => h) (fun _ _ h => h) (fun E ce q9 u t H1 locs1 ht hvm hpx hBX hz hk9 hS1 hcell hcv hcl => ?_) (fun u t H1 locs1 ht hvm hw _ _ _ _ => absurd hw id)
        subst hQ
        exact vx_out (fun x hx9 => (hnt x hx9).elim) hlocks hcell hcv hcl (fun t2 ht2 _ => ⟨(), trivial, hBX, hS1.F ht2⟩) hS1.2.2 (Nat.le_refl _) (Nat.le_refl _)
  exact lp10 (n - 0) 0 (by omega) rfl ls (lv_sub hl [1, 2, 0] rfl)
