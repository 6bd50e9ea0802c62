abbrev rL_setArms : Room := { frames := 4, cells := 0, slots := 0, locals := 89 }
theorem hdL_setArms : yL_setArms.cls ≠ "java/lang/invoke/MethodHandle" ∧ yL_setArms.cls ≠ "java/lang/invoke/VarHandle" ∧ (parseMethodDescriptor yL_setArms.desc).map (fun d => d.parameters.length) = some 3 := by decide +kernel
set_option maxHeartbeats 4000000 in
set_option maxRecDepth 100000 in
theorem k_L_setArms {l : Launch} {D : va_G} {q : Nat → Nat} {o o2 : Nat} {cI cD cJ : ClassId} {a0 rC : Int32} {fi fo fw : Nat → Int32} {fe : Nat → UInt64} {ft fr fp fl : Nat → Int32} {ff : Nat → UInt64} {f1 : Nat → Int64} {f2 : Nat → UInt64} {T : Type} {post : Int32 → T → Prop} {wd : T → va_W} {y0 : Int32} (hM : Met l yX0_setArms wsX0_setArms rX0_setArms (va_Pc [.ref (q 0), .int y0] (wPre D (tys2 cI cD) (cW q cI cD a0 rC fi fo fw fe ft fr fp fl ff))) (va_Qi post (fun u t => va_P D cls2 (wd u) t.heap) (qA q)) 0 0 (qA q)) (hwd : ∀ u, (wd u).map (fun x => x.1) = [q 0, q 1, q 2, q 3, q 4, q 5, q 6, q 7, q 8, q 9]) (hd : d12 q o o2) : Met l yL_setArms wsL_setArms rL_setArms (va_Pc [.ref (q 0), .int y0, .ref o] (wPre D (tys3 cI cD cJ) (cW q cI cD a0 rC fi fo fw fe ft fr fp fl ff ++ oW o o2 cJ cD f1 f2))) (va_Qi (fun r (u : Int32 × T) => r = nI 0 ∧ post u.1 u.2) (fun u t => va_P D cls2 (wd u.2 ++ oW o o2 cJ cD (vp_updL f1 0 (Int32.toInt64 u.1)) f2) t.heap) (A12 q o o2)) 0 0 (A12 q o o2) := by
  refine met_introW (cc := cL_setArms) (maxL := 4) (ret := some .int) (hh := [(0, 9, 12, 13)]) (own := RL) (by decide) rfl rfl (Nat.le_of_ble_eq_true rfl) ?_
  intro pp ee ss mm args below meth cd Q ls hQ S hr hlocks htab hv hB hl
  obtain ⟨hx, hb, hml, hown, hts⟩ := id S
  obtain ⟨hP, hK⟩ := hB
  have hl : lv_has ls 4 [(0, .ref (q 0)), (1, .int y0), (2, .ref o)] := hl
  have hP2 : va_P D cls2 (cW q cI cD a0 rC fi fo fw fe ft fr fp fl ff) ss.heap := hP.sub [0, 1, 2, 3, 4, 5, 6, 7, 8, 9] rfl
  have hK2 : va_K D cls2 (tys2 cI cD) ss := hK.sub [0, 1] rfl
  refine lv_aload_n hx hb dL_setArms_0 rfl (lv_at hl 2 rfl) ?_
  refine lv_iconst (v := nI 0) hx hb dL_setArms_1 (by decide) ?_
  refine lv_aload_n hx hb dL_setArms_2 rfl (lv_at hl 0 rfl) ?_
  refine lv_iload_n hx hb dL_setArms_3 rfl (lv_at hl 1 rfl) ?_
  refine va_calli (va_runV (As := [.int y0]) (rest := [.int (nI 0), .ref o]) S hM (cwV 1 hts gL_setArms_X0_setArms rfl rfl rfl hdX0_setArms ⟨Nat.le_of_ble_eq_true rfl, Nat.le_of_ble_eq_true rfl⟩) (preV hK2 hP2 rfl rfl) rfl rfl hl.1 rfl (lv_room (Nat.le_of_ble_eq_true rfl)) dL_setArms_4 ⟨Nat.zero_le _, Nat.zero_le _⟩) (va_S.rf (A := A12 q o o2)) (fun _ _ h => Or.inl h) (fun _ h => Or.inl h) (fun r u t H locs ht hvm hw hB hz1 hk1 hS => ?_)
  replace hB : va_P D cls2 (wd u) t.heap := hB
  rw [ht] at hB
  have hP : va_P D cls2 (wd u ++ oW o o2 cJ cD f1 f2) H := glue (w := cW q cI cD a0 rC fi fo fw fe ft fr fp fl ff ++ oW o o2 cJ cD f1 f2) (w1 := cW q cI cD a0 rC fi fo fw fe ft fr fp fl ff) (w1' := wd u) (w2 := oW o o2 cJ cD f1 f2) hP (D12_of hd rfl) [0, 1, 2, 3, 4, 5, 6, 7, 8, 9] [10, 11] rfl rfl (by decide) (qA_in rfl) hk1 hB
  refine lv_i2l hx hb dL_setArms_7 rfl ?_
  refine o_last (w := wd u) hx hb hK hP (hwd u) hd hS dL_setArms_8 (fun H locs hP hS => ?_)
  refine lv_goto (tgt := 15) hx hb dL_setArms_9 (by decide) ?_
  refine lv_iconst (v := nI 0) hx hb dL_setArms_15 (by decide) ?_
  subst hQ
  exact W.iret hx hb hr (fun t ht hWm => ⟨⟨_, (r, u), rfl, ⟨rfl, hw⟩, (show va_P D cls2 _ t.heap from by rw [ht]; exact hP)⟩, hS.F ht⟩) hS.2.2 dL_setArms_16
abbrev rz_L_setArms1 : Room := { frames := 8, cells := 1, slots := 6, locals := 134 }
set_option maxHeartbeats 4000000 in
set_option maxRecDepth 100000 in
theorem z_L_setArms1 {l : Launch} {sa : Nat → Nat} {D : va_G} {q : Nat → Nat} {o o2 : Nat} {cI cD cJ : ClassId} {a0 rC : Int32} {fi fo fw : Nat → Int32} {fe : Nat → UInt64} {ft fr fp fl : Nat → Int32} {ff : Nat → UInt64} {f1 : Nat → Int64} {f2 : Nat → UInt64} {y0 : Int32} {rm : Room} (hrm : rm.cells = 1 ∧ rm.slots = 6 ∧ rm.frames ≤ 7 ∧ rm.locals ≤ 112) (hM : vx_Met l yX0_setArms wsX0_setArms rm (va_Pc [.ref (q 0), .int y0] (xPre D (tys2 cI cD) (cW q cI cD a0 rC fi fo fw fe ft fr fp fl ff) sa)) (va_Qi (fun _ (_ : Unit) => False) (fun _ _ => True) (fun _ => False)) (xX eA) 1 6 (fun _ => False)) : Met l yL_setArms wsL_setArms rz_L_setArms1 (va_Pc [.ref (q 0), .int y0, .ref o] (xPre D (tys3 cI cD cJ) (cW q cI cD a0 rC fi fo fw fe ft fr fp fl ff ++ oW o o2 cJ cD f1 f2) sa)) (va_Qi (fun r (_ : Unit) => r = nI 1) (fun _ t => va_P D cls2 (cW q cI cD a0 rC fi fo fw fe ft fr fp fl ff ++ oW o o2 cJ cD f1 f2) t.heap) (fun _ => False)) 1 6 (fun _ => False) := by
  refine met_introW (cc := cL_setArms) (maxL := 4) (ret := some .int) (hh := [(0, 9, 12, 13)]) (own := RL) (by decide) rfl rfl (Nat.le_of_ble_eq_true rfl) ?_
  intro pp ee ss mm args below meth cd Q ls hQ S hr hlocks htab hv hB hl
  obtain ⟨hx, hb, hml, hown, hts⟩ := id S
  obtain ⟨⟨hP, hK⟩, hG⟩ := hB
  have hl : lv_has ls 4 [(0, .ref (q 0)), (1, .int y0), (2, .ref o)] := hl
  have hP2 : va_P D cls2 (cW q cI cD a0 rC fi fo fw fe ft fr fp fl ff) ss.heap := hP.sub [0, 1, 2, 3, 4, 5, 6, 7, 8, 9] rfl
  have hK2 : va_K D cls2 (tys2 cI cD) ss := hK.sub [0, 1] rfl
  refine lv_aload_n hx hb dL_setArms_0 rfl (lv_at hl 2 rfl) ?_
  refine lv_iconst (v := nI 0) hx hb dL_setArms_1 (by decide) ?_
  refine lv_aload_n hx hb dL_setArms_2 rfl (lv_at hl 0 rfl) ?_
  refine lv_iload_n hx hb dL_setArms_3 rfl (lv_at hl 1 rfl) ?_
  refine vx_calli (vx_runV (As := [.int y0]) (rest := [.int (nI 0), .ref o]) S hM (cwV 1 hts gL_setArms_X0_setArms rfl hrm.1 hrm.2.1 hdX0_setArms ⟨Nat.succ_le_succ hrm.2.2.1, Nat.le_trans (Nat.add_le_add_left hrm.2.2.2 _) (Nat.le_of_ble_eq_true rfl)⟩) (preX hK2 hP2 hG rfl rfl) rfl rfl hl.1 rfl (lv_room (Nat.le_of_ble_eq_true rfl)) dL_setArms_4 ⟨Nat.le_of_ble_eq_true rfl, Nat.le_of_ble_eq_true rfl⟩) (va_S.rf (A := fun _ => False)) (fun _ _ h => h) (fun _ h => h) (fun _ _ h => h) (fun E ce q9 u t H1 locs1 ht hvm hpx hBX hz hk9 hS1 hcell hcv hcl => ?_) (fun r u t H1 locs1 ht hvm hw _ _ _ _ => absurd hw id)
  replace hBX : E = eA := hBX
  subst hBX
  have hP1 : va_P D cls2 (cW q cI cD a0 rC fi fo fw fe ft fr fp fl ff ++ oW o o2 cJ cD f1 f2) H1 := fun k x hk => (hP k x hk).kept (hk9 _ (hP k x hk).lt (fun h => h))
  refine vx_catch (own := RL) (name := eA) (E := eA) hown [] ⟨0, 9, 12, 13⟩ [] htab (fun z hz => absurd hz List.not_mem_nil) (by decide) (by decide) (hts (.classLink RL 13 eA) (by decide +kernel)) (xW_use hG.2.2.1 (.castable eA eA) (by decide +kernel)) hcell hcv hcl ?_
  refine lv_astore_n (lv' := [(3, .ref q9), (0, .ref (q 0)), (1, .int y0), (2, .ref o)]) hx hb dL_setArms_12 rfl hl (by decide) rfl (fun ls hl => ?_)
  refine lv_iconst (v := nI 1) hx hb dL_setArms_13 (by decide) ?_
  subst hQ
  exact W.iret hx hb hr (fun t ht hWm => ⟨⟨_, (), rfl, rfl, (show va_P D cls2 _ t.heap from by rw [ht]; exact hP1)⟩, hS1.F ht⟩) hS1.2.2 dL_setArms_14
abbrev rL_setInflow : Room := { frames := 4, cells := 0, slots := 0, locals := 89 }
theorem hdL_setInflow : yL_setInflow.cls ≠ "java/lang/invoke/MethodHandle" ∧ yL_setInflow.cls ≠ "java/lang/invoke/VarHandle" ∧ (parseMethodDescriptor yL_setInflow.desc).map (fun d => d.parameters.length) = some 4 := by decide +kernel
set_option maxHeartbeats 4000000 in
set_option maxRecDepth 100000 in
theorem k_L_setInflow {l : Launch} {D : va_G} {q : Nat → Nat} {o o2 : Nat} {cI cD cJ : ClassId} {a0 rC : Int32} {fi fo fw : Nat → Int32} {fe : Nat → UInt64} {ft fr fp fl : Nat → Int32} {ff : Nat → UInt64} {f1 : Nat → Int64} {f2 : Nat → UInt64} {T : Type} {post : Int32 → T → Prop} {wd : T → va_W} {y0 y1 : Int32} (hM : Met l yX0_setInflow wsX0_setInflow rX0_setInflow (va_Pc [.ref (q 0), .int y0, .int y1] (wPre D (tys2 cI cD) (cW q cI cD a0 rC fi fo fw fe ft fr fp fl ff))) (va_Qi post (fun u t => va_P D cls2 (wd u) t.heap) (qA q)) 0 0 (qA q)) (hwd : ∀ u, (wd u).map (fun x => x.1) = [q 0, q 1, q 2, q 3, q 4, q 5, q 6, q 7, q 8, q 9]) (hd : d12 q o o2) : Met l yL_setInflow wsL_setInflow rL_setInflow (va_Pc [.ref (q 0), .int y0, .int y1, .ref o] (wPre D (tys3 cI cD cJ) (cW q cI cD a0 rC fi fo fw fe ft fr fp fl ff ++ oW o o2 cJ cD f1 f2))) (va_Qi (fun r (u : Int32 × T) => r = nI 0 ∧ post u.1 u.2) (fun u t => va_P D cls2 (wd u.2 ++ oW o o2 cJ cD (vp_updL f1 0 (Int32.toInt64 u.1)) f2) t.heap) (A12 q o o2)) 0 0 (A12 q o o2) := by
  refine met_introW (cc := cL_setInflow) (maxL := 5) (ret := some .int) (hh := [(0, 10, 13, 19), (0, 10, 17, 13)]) (own := RL) (by decide) rfl rfl (Nat.le_of_ble_eq_true rfl) ?_
  intro pp ee ss mm args below meth cd Q ls hQ S hr hlocks htab hv hB hl
  obtain ⟨hx, hb, hml, hown, hts⟩ := id S
  obtain ⟨hP, hK⟩ := hB
  have hl : lv_has ls 5 [(0, .ref (q 0)), (1, .int y0), (2, .int y1), (3, .ref o)] := hl
  have hP2 : va_P D cls2 (cW q cI cD a0 rC fi fo fw fe ft fr fp fl ff) ss.heap := hP.sub [0, 1, 2, 3, 4, 5, 6, 7, 8, 9] rfl
  have hK2 : va_K D cls2 (tys2 cI cD) ss := hK.sub [0, 1] rfl
  refine lv_aload_n hx hb dL_setInflow_0 rfl (lv_at hl 3 rfl) ?_
  refine lv_iconst (v := nI 0) hx hb dL_setInflow_1 (by decide) ?_
  refine lv_aload_n hx hb dL_setInflow_2 rfl (lv_at hl 0 rfl) ?_
  refine lv_iload_n hx hb dL_setInflow_3 rfl (lv_at hl 1 rfl) ?_
  refine lv_iload_n hx hb dL_setInflow_4 rfl (lv_at hl 2 rfl) ?_
  refine va_calli (va_runV (As := [.int y0, .int y1]) (rest := [.int (nI 0), .ref o]) S hM (cwV 2 hts gL_setInflow_X0_setInflow rfl rfl rfl hdX0_setInflow ⟨Nat.le_of_ble_eq_true rfl, Nat.le_of_ble_eq_true rfl⟩) (preV hK2 hP2 rfl rfl) rfl rfl hl.1 rfl (lv_room (Nat.le_of_ble_eq_true rfl)) dL_setInflow_5 ⟨Nat.zero_le _, Nat.zero_le _⟩) (va_S.rf (A := A12 q o o2)) (fun _ _ h => Or.inl h) (fun _ h => Or.inl h) (fun r u t H locs ht hvm hw hB hz1 hk1 hS => ?_)
  replace hB : va_P D cls2 (wd u) t.heap := hB
  rw [ht] at hB
  have hP : va_P D cls2 (wd u ++ oW o o2 cJ cD f1 f2) H := glue (w := cW q cI cD a0 rC fi fo fw fe ft fr fp fl ff ++ oW o o2 cJ cD f1 f2) (w1 := cW q cI cD a0 rC fi fo fw fe ft fr fp fl ff) (w1' := wd u) (w2 := oW o o2 cJ cD f1 f2) hP (D12_of hd rfl) [0, 1, 2, 3, 4, 5, 6, 7, 8, 9] [10, 11] rfl rfl (by decide) (qA_in rfl) hk1 hB
  refine lv_i2l hx hb dL_setInflow_8 rfl ?_
  refine o_last (w := wd u) hx hb hK hP (hwd u) hd hS dL_setInflow_9 (fun H locs hP hS => ?_)
  refine lv_goto (tgt := 21) hx hb dL_setInflow_10 (by decide) ?_
  refine lv_iconst (v := nI 0) hx hb dL_setInflow_21 (by decide) ?_
  subst hQ
  exact W.iret hx hb hr (fun t ht hWm => ⟨⟨_, (r, u), rfl, ⟨rfl, hw⟩, (show va_P D cls2 _ t.heap from by rw [ht]; exact hP)⟩, hS.F ht⟩) hS.2.2 dL_setInflow_22
abbrev rz_L_setInflow1 : Room := { frames := 9, cells := 1, slots := 6, locals := 158 }
set_option maxHeartbeats 4000000 in
set_option maxRecDepth 100000 in
theorem z_L_setInflow1 {l : Launch} {sa : Nat → Nat} {D : va_G} {q : Nat → Nat} {o o2 : Nat} {cI cD cJ : ClassId} {a0 rC : Int32} {fi fo fw : Nat → Int32} {fe : Nat → UInt64} {ft fr fp fl : Nat → Int32} {ff : Nat → UInt64} {f1 : Nat → Int64} {f2 : Nat → UInt64} {y0 y1 : Int32} {rm : Room} (hrm : rm.cells = 1 ∧ rm.slots = 6 ∧ rm.frames ≤ 8 ∧ rm.locals ≤ 136) (hM : vx_Met l yX0_setInflow wsX0_setInflow rm (va_Pc [.ref (q 0), .int y0, .int y1] (xPre D (tys2 cI cD) (cW q cI cD a0 rC fi fo fw fe ft fr fp fl ff) sa)) (va_Qi (fun _ (_ : Unit) => False) (fun _ _ => True) (fun _ => False)) (xX eI) 1 6 (fun _ => False)) : Met l yL_setInflow wsL_setInflow rz_L_setInflow1 (va_Pc [.ref (q 0), .int y0, .int y1, .ref o] (xPre D (tys3 cI cD cJ) (cW q cI cD a0 rC fi fo fw fe ft fr fp fl ff ++ oW o o2 cJ cD f1 f2) sa)) (va_Qi (fun r (_ : Unit) => r = nI 1) (fun _ t => va_P D cls2 (cW q cI cD a0 rC fi fo fw fe ft fr fp fl ff ++ oW o o2 cJ cD f1 f2) t.heap) (fun _ => False)) 1 6 (fun _ => False) := by
  refine met_introW (cc := cL_setInflow) (maxL := 5) (ret := some .int) (hh := [(0, 10, 13, 19), (0, 10, 17, 13)]) (own := RL) (by decide) rfl rfl (Nat.le_of_ble_eq_true rfl) ?_
  intro pp ee ss mm args below meth cd Q ls hQ S hr hlocks htab hv hB hl
  obtain ⟨hx, hb, hml, hown, hts⟩ := id S
  obtain ⟨⟨hP, hK⟩, hG⟩ := hB
  have hl : lv_has ls 5 [(0, .ref (q 0)), (1, .int y0), (2, .int y1), (3, .ref o)] := hl
  have hP2 : va_P D cls2 (cW q cI cD a0 rC fi fo fw fe ft fr fp fl ff) ss.heap := hP.sub [0, 1, 2, 3, 4, 5, 6, 7, 8, 9] rfl
  have hK2 : va_K D cls2 (tys2 cI cD) ss := hK.sub [0, 1] rfl
  refine lv_aload_n hx hb dL_setInflow_0 rfl (lv_at hl 3 rfl) ?_
  refine lv_iconst (v := nI 0) hx hb dL_setInflow_1 (by decide) ?_
  refine lv_aload_n hx hb dL_setInflow_2 rfl (lv_at hl 0 rfl) ?_
  refine lv_iload_n hx hb dL_setInflow_3 rfl (lv_at hl 1 rfl) ?_
  refine lv_iload_n hx hb dL_setInflow_4 rfl (lv_at hl 2 rfl) ?_
  refine vx_calli (vx_runV (As := [.int y0, .int y1]) (rest := [.int (nI 0), .ref o]) S hM (cwV 2 hts gL_setInflow_X0_setInflow rfl hrm.1 hrm.2.1 hdX0_setInflow ⟨Nat.succ_le_succ hrm.2.2.1, Nat.le_trans (Nat.add_le_add_left hrm.2.2.2 _) (Nat.le_of_ble_eq_true rfl)⟩) (preX hK2 hP2 hG rfl rfl) rfl rfl hl.1 rfl (lv_room (Nat.le_of_ble_eq_true rfl)) dL_setInflow_5 ⟨Nat.le_of_ble_eq_true rfl, Nat.le_of_ble_eq_true rfl⟩) (va_S.rf (A := fun _ => False)) (fun _ _ h => h) (fun _ h => h) (fun _ _ h => h) (fun E ce q9 u t H1 locs1 ht hvm hpx hBX hz hk9 hS1 hcell hcv hcl => ?_) (fun r u t H1 locs1 ht hvm hw _ _ _ _ => absurd hw id)
  replace hBX : E = eI := hBX
  subst hBX
  have hP1 : va_P D cls2 (cW q cI cD a0 rC fi fo fw fe ft fr fp fl ff ++ oW o o2 cJ cD f1 f2) H1 := fun k x hk => (hP k x hk).kept (hk9 _ (hP k x hk).lt (fun h => h))
  refine vx_catch (own := RL) (name := eI) (E := eI) hown [] ⟨0, 10, 13, 19⟩ [⟨0, 10, 17, 13⟩] htab (fun z hz => absurd hz List.not_mem_nil) (by decide) (by decide) (hts (.classLink RL 19 eI) (by decide +kernel)) (xW_use hG.2.2.1 (.castable eI eI) (by decide +kernel)) hcell hcv hcl ?_
  refine lv_astore (lv' := [(4, .ref q9), (0, .ref (q 0)), (1, .int y0), (2, .int y1), (3, .ref o)]) hx hb dL_setInflow_13 hl (by decide) rfl (fun ls hl => ?_)
  refine lv_iconst (v := nI 1) hx hb dL_setInflow_15 (by decide) ?_
  subst hQ
  exact W.iret hx hb hr (fun t ht hWm => ⟨⟨_, (), rfl, rfl, (show va_P D cls2 _ t.heap from by rw [ht]; exact hP1)⟩, hS1.F ht⟩) hS1.2.2 dL_setInflow_16
abbrev rz_L_setInflow2 : Room := { frames := 9, cells := 1, slots := 6, locals := 158 }
set_option maxHeartbeats 4000000 in
set_option maxRecDepth 100000 in
theorem z_L_setInflow2 {l : Launch} {sa : Nat → Nat} {D : va_G} {q : Nat → Nat} {o o2 : Nat} {cI cD cJ : ClassId} {a0 rC : Int32} {fi fo fw : Nat → Int32} {fe : Nat → UInt64} {ft fr fp fl : Nat → Int32} {ff : Nat → UInt64} {f1 : Nat → Int64} {f2 : Nat → UInt64} {y0 y1 : Int32} {rm : Room} (hrm : rm.cells = 1 ∧ rm.slots = 6 ∧ rm.frames ≤ 8 ∧ rm.locals ≤ 136) (hM : vx_Met l yX0_setInflow wsX0_setInflow rm (va_Pc [.ref (q 0), .int y0, .int y1] (xPre D (tys2 cI cD) (cW q cI cD a0 rC fi fo fw fe ft fr fp fl ff) sa)) (va_Qi (fun _ (_ : Unit) => False) (fun _ _ => True) (fun _ => False)) (xX eA) 1 6 (fun _ => False)) : Met l yL_setInflow wsL_setInflow rz_L_setInflow2 (va_Pc [.ref (q 0), .int y0, .int y1, .ref o] (xPre D (tys3 cI cD cJ) (cW q cI cD a0 rC fi fo fw fe ft fr fp fl ff ++ oW o o2 cJ cD f1 f2) sa)) (va_Qi (fun r (_ : Unit) => r = nI 2) (fun _ t => va_P D cls2 (cW q cI cD a0 rC fi fo fw fe ft fr fp fl ff ++ oW o o2 cJ cD f1 f2) t.heap) (fun _ => False)) 1 6 (fun _ => False) := by
  refine met_introW (cc := cL_setInflow) (maxL := 5) (ret := some .int) (hh := [(0, 10, 13, 19), (0, 10, 17, 13)]) (own := RL) (by decide) rfl rfl (Nat.le_of_ble_eq_true rfl) ?_
  intro pp ee ss mm args below meth cd Q ls hQ S hr hlocks htab hv hB hl
  obtain ⟨hx, hb, hml, hown, hts⟩ := id S
  obtain ⟨⟨hP, hK⟩, hG⟩ := hB
  have hl : lv_has ls 5 [(0, .ref (q 0)), (1, .int y0), (2, .int y1), (3, .ref o)] := hl
  have hP2 : va_P D cls2 (cW q cI cD a0 rC fi fo fw fe ft fr fp fl ff) ss.heap := hP.sub [0, 1, 2, 3, 4, 5, 6, 7, 8, 9] rfl
  have hK2 : va_K D cls2 (tys2 cI cD) ss := hK.sub [0, 1] rfl
  refine lv_aload_n hx hb dL_setInflow_0 rfl (lv_at hl 3 rfl) ?_
  refine lv_iconst (v := nI 0) hx hb dL_setInflow_1 (by decide) ?_
  refine lv_aload_n hx hb dL_setInflow_2 rfl (lv_at hl 0 rfl) ?_
  refine lv_iload_n hx hb dL_setInflow_3 rfl (lv_at hl 1 rfl) ?_
  refine lv_iload_n hx hb dL_setInflow_4 rfl (lv_at hl 2 rfl) ?_
  refine vx_calli (vx_runV (As := [.int y0, .int y1]) (rest := [.int (nI 0), .ref o]) S hM (cwV 2 hts gL_setInflow_X0_setInflow rfl hrm.1 hrm.2.1 hdX0_setInflow ⟨Nat.succ_le_succ hrm.2.2.1, Nat.le_trans (Nat.add_le_add_left hrm.2.2.2 _) (Nat.le_of_ble_eq_true rfl)⟩) (preX hK2 hP2 hG rfl rfl) rfl rfl hl.1 rfl (lv_room (Nat.le_of_ble_eq_true rfl)) dL_setInflow_5 ⟨Nat.le_of_ble_eq_true rfl, Nat.le_of_ble_eq_true rfl⟩) (va_S.rf (A := fun _ => False)) (fun _ _ h => h) (fun _ h => h) (fun _ _ h => h) (fun E ce q9 u t H1 locs1 ht hvm hpx hBX hz hk9 hS1 hcell hcv hcl => ?_) (fun r u t H1 locs1 ht hvm hw _ _ _ _ => absurd hw id)
  replace hBX : E = eA := hBX
  subst hBX
  have hP1 : va_P D cls2 (cW q cI cD a0 rC fi fo fw fe ft fr fp fl ff ++ oW o o2 cJ cD f1 f2) H1 := fun k x hk => (hP k x hk).kept (hk9 _ (hP k x hk).lt (fun h => h))
  refine vx_catch (own := RL) (name := eA) (E := eA) hown [⟨0, 10, 13, 19⟩] ⟨0, 10, 17, 13⟩ [] htab (fun z hz => by rw [List.mem_singleton.mp hz]; exact Or.inr ⟨by decide, eI, hts (.classLink RL 19 eI) (by decide +kernel), hG.2.2.2.1⟩) (by decide) (by decide) (hts (.classLink RL 13 eA) (by decide +kernel)) (xW_use hG.2.2.1 (.castable eA eA) (by decide +kernel)) hcell hcv hcl ?_
  refine lv_astore (lv' := [(4, .ref q9), (0, .ref (q 0)), (1, .int y0), (2, .int y1), (3, .ref o)]) hx hb dL_setInflow_17 hl (by decide) rfl (fun ls hl => ?_)
  refine lv_iconst (v := nI 2) hx hb dL_setInflow_19 (by decide) ?_
  subst hQ
  exact W.iret hx hb hr (fun t ht hWm => ⟨⟨_, (), rfl, rfl, (show va_P D cls2 _ t.heap from by rw [ht]; exact hP1)⟩, hS1.F ht⟩) hS1.2.2 dL_setInflow_20
abbrev rL_setOutflow : Room := { frames := 4, cells := 0, slots := 0, locals := 89 }
theorem hdL_setOutflow : yL_setOutflow.cls ≠ "java/lang/invoke/MethodHandle" ∧ yL_setOutflow.cls ≠ "java/lang/invoke/VarHandle" ∧ (parseMethodDescriptor yL_setOutflow.desc).map (fun d => d.parameters.length) = some 4 := by decide +kernel
set_option maxHeartbeats 4000000 in
set_option maxRecDepth 100000 in
theorem k_L_setOutflow {l : Launch} {D : va_G} {q : Nat → Nat} {o o2 : Nat} {cI cD cJ : ClassId} {a0 rC : Int32} {fi fo fw : Nat → Int32} {fe : Nat → UInt64} {ft fr fp fl : Nat → Int32} {ff : Nat → UInt64} {f1 : Nat → Int64} {f2 : Nat → UInt64} {T : Type} {post : Int32 → T → Prop} {wd : T → va_W} {y0 y1 : Int32} (hM : Met l yX0_setOutflow wsX0_setOutflow rX0_setOutflow (va_Pc [.ref (q 0), .int y0, .int y1] (wPre D (tys2 cI cD) (cW q cI cD a0 rC fi fo fw fe ft fr fp fl ff))) (va_Qi post (fun u t => va_P D cls2 (wd u) t.heap) (qA q)) 0 0 (qA q)) (hwd : ∀ u, (wd u).map (fun x => x.1) = [q 0, q 1, q 2, q 3, q 4, q 5, q 6, q 7, q 8, q 9]) (hd : d12 q o o2) : Met l yL_setOutflow wsL_setOutflow rL_setOutflow (va_Pc [.ref (q 0), .int y0, .int y1, .ref o] (wPre D (tys3 cI cD cJ) (cW q cI cD a0 rC fi fo fw fe ft fr fp fl ff ++ oW o o2 cJ cD f1 f2))) (va_Qi (fun r (u : Int32 × T) => r = nI 0 ∧ post u.1 u.2) (fun u t => va_P D cls2 (wd u.2 ++ oW o o2 cJ cD (vp_updL f1 0 (Int32.toInt64 u.1)) f2) t.heap) (A12 q o o2)) 0 0 (A12 q o o2) := by
  refine met_introW (cc := cL_setOutflow) (maxL := 5) (ret := some .int) (hh := [(0, 10, 13, 19), (0, 10, 17, 13)]) (own := RL) (by decide) rfl rfl (Nat.le_of_ble_eq_true rfl) ?_
  intro pp ee ss mm args below meth cd Q ls hQ S hr hlocks htab hv hB hl
  obtain ⟨hx, hb, hml, hown, hts⟩ := id S
  obtain ⟨hP, hK⟩ := hB
  have hl : lv_has ls 5 [(0, .ref (q 0)), (1, .int y0), (2, .int y1), (3, .ref o)] := hl
  have hP2 : va_P D cls2 (cW q cI cD a0 rC fi fo fw fe ft fr fp fl ff) ss.heap := hP.sub [0, 1, 2, 3, 4, 5, 6, 7, 8, 9] rfl
  have hK2 : va_K D cls2 (tys2 cI cD) ss := hK.sub [0, 1] rfl
  refine lv_aload_n hx hb dL_setOutflow_0 rfl (lv_at hl 3 rfl) ?_
  refine lv_iconst (v := nI 0) hx hb dL_setOutflow_1 (by decide) ?_
  refine lv_aload_n hx hb dL_setOutflow_2 rfl (lv_at hl 0 rfl) ?_
  refine lv_iload_n hx hb dL_setOutflow_3 rfl (lv_at hl 1 rfl) ?_
  refine lv_iload_n hx hb dL_setOutflow_4 rfl (lv_at hl 2 rfl) ?_
  refine va_calli (va_runV (As := [.int y0, .int y1]) (rest := [.int (nI 0), .ref o]) S hM (cwV 2 hts gL_setOutflow_X0_setOutflow rfl rfl rfl hdX0_setOutflow ⟨Nat.le_of_ble_eq_true rfl, Nat.le_of_ble_eq_true rfl⟩) (preV hK2 hP2 rfl rfl) rfl rfl hl.1 rfl (lv_room (Nat.le_of_ble_eq_true rfl)) dL_setOutflow_5 ⟨Nat.zero_le _, Nat.zero_le _⟩) (va_S.rf (A := A12 q o o2)) (fun _ _ h => Or.inl h) (fun _ h => Or.inl h) (fun r u t H locs ht hvm hw hB hz1 hk1 hS => ?_)
  replace hB : va_P D cls2 (wd u) t.heap := hB
  rw [ht] at hB
  have hP : va_P D cls2 (wd u ++ oW o o2 cJ cD f1 f2) H := glue (w := cW q cI cD a0 rC fi fo fw fe ft fr fp fl ff ++ oW o o2 cJ cD f1 f2) (w1 := cW q cI cD a0 rC fi fo fw fe ft fr fp fl ff) (w1' := wd u) (w2 := oW o o2 cJ cD f1 f2) hP (D12_of hd rfl) [0, 1, 2, 3, 4, 5, 6, 7, 8, 9] [10, 11] rfl rfl (by decide) (qA_in rfl) hk1 hB
  refine lv_i2l hx hb dL_setOutflow_8 rfl ?_
  refine o_last (w := wd u) hx hb hK hP (hwd u) hd hS dL_setOutflow_9 (fun H locs hP hS => ?_)
  refine lv_goto (tgt := 21) hx hb dL_setOutflow_10 (by decide) ?_
  refine lv_iconst (v := nI 0) hx hb dL_setOutflow_21 (by decide) ?_
  subst hQ
  exact W.iret hx hb hr (fun t ht hWm => ⟨⟨_, (r, u), rfl, ⟨rfl, hw⟩, (show va_P D cls2 _ t.heap from by rw [ht]; exact hP)⟩, hS.F ht⟩) hS.2.2 dL_setOutflow_22
abbrev rz_L_setOutflow1 : Room := { frames := 9, cells := 1, slots := 6, locals := 158 }
set_option maxHeartbeats 4000000 in
set_option maxRecDepth 100000 in
theorem z_L_setOutflow1 {l : Launch} {sa : Nat → Nat} {D : va_G} {q : Nat → Nat} {o o2 : Nat} {cI cD cJ : ClassId} {a0 rC : Int32} {fi fo fw : Nat → Int32} {fe : Nat → UInt64} {ft fr fp fl : Nat → Int32} {ff : Nat → UInt64} {f1 : Nat → Int64} {f2 : Nat → UInt64} {y0 y1 : Int32} {rm : Room} (hrm : rm.cells = 1 ∧ rm.slots = 6 ∧ rm.frames ≤ 8 ∧ rm.locals ≤ 136) (hM : vx_Met l yX0_setOutflow wsX0_setOutflow rm (va_Pc [.ref (q 0), .int y0, .int y1] (xPre D (tys2 cI cD) (cW q cI cD a0 rC fi fo fw fe ft fr fp fl ff) sa)) (va_Qi (fun _ (_ : Unit) => False) (fun _ _ => True) (fun _ => False)) (xX eI) 1 6 (fun _ => False)) : Met l yL_setOutflow wsL_setOutflow rz_L_setOutflow1 (va_Pc [.ref (q 0), .int y0, .int y1, .ref o] (xPre D (tys3 cI cD cJ) (cW q cI cD a0 rC fi fo fw fe ft fr fp fl ff ++ oW o o2 cJ cD f1 f2) sa)) (va_Qi (fun r (_ : Unit) => r = nI 1) (fun _ t => va_P D cls2 (cW q cI cD a0 rC fi fo fw fe ft fr fp fl ff ++ oW o o2 cJ cD f1 f2) t.heap) (fun _ => False)) 1 6 (fun _ => False) := by
  refine met_introW (cc := cL_setOutflow) (maxL := 5) (ret := some .int) (hh := [(0, 10, 13, 19), (0, 10, 17, 13)]) (own := RL) (by decide) rfl rfl (Nat.le_of_ble_eq_true rfl) ?_
  intro pp ee ss mm args below meth cd Q ls hQ S hr hlocks htab hv hB hl
  obtain ⟨hx, hb, hml, hown, hts⟩ := id S
  obtain ⟨⟨hP, hK⟩, hG⟩ := hB
  have hl : lv_has ls 5 [(0, .ref (q 0)), (1, .int y0), (2, .int y1), (3, .ref o)] := hl
  have hP2 : va_P D cls2 (cW q cI cD a0 rC fi fo fw fe ft fr fp fl ff) ss.heap := hP.sub [0, 1, 2, 3, 4, 5, 6, 7, 8, 9] rfl
  have hK2 : va_K D cls2 (tys2 cI cD) ss := hK.sub [0, 1] rfl
  refine lv_aload_n hx hb dL_setOutflow_0 rfl (lv_at hl 3 rfl) ?_
  refine lv_iconst (v := nI 0) hx hb dL_setOutflow_1 (by decide) ?_
  refine lv_aload_n hx hb dL_setOutflow_2 rfl (lv_at hl 0 rfl) ?_
  refine lv_iload_n hx hb dL_setOutflow_3 rfl (lv_at hl 1 rfl) ?_
  refine lv_iload_n hx hb dL_setOutflow_4 rfl (lv_at hl 2 rfl) ?_
  refine vx_calli (vx_runV (As := [.int y0, .int y1]) (rest := [.int (nI 0), .ref o]) S hM (cwV 2 hts gL_setOutflow_X0_setOutflow rfl hrm.1 hrm.2.1 hdX0_setOutflow ⟨Nat.succ_le_succ hrm.2.2.1, Nat.le_trans (Nat.add_le_add_left hrm.2.2.2 _) (Nat.le_of_ble_eq_true rfl)⟩) (preX hK2 hP2 hG rfl rfl) rfl rfl hl.1 rfl (lv_room (Nat.le_of_ble_eq_true rfl)) dL_setOutflow_5 ⟨Nat.le_of_ble_eq_true rfl, Nat.le_of_ble_eq_true rfl⟩) (va_S.rf (A := fun _ => False)) (fun _ _ h => h) (fun _ h => h) (fun _ _ h => h) (fun E ce q9 u t H1 locs1 ht hvm hpx hBX hz hk9 hS1 hcell hcv hcl => ?_) (fun r u t H1 locs1 ht hvm hw _ _ _ _ => absurd hw id)
  replace hBX : E = eI := hBX
  subst hBX
  have hP1 : va_P D cls2 (cW q cI cD a0 rC fi fo fw fe ft fr fp fl ff ++ oW o o2 cJ cD f1 f2) H1 := fun k x hk => (hP k x hk).kept (hk9 _ (hP k x hk).lt (fun h => h))
  refine vx_catch (own := RL) (name := eI) (E := eI) hown [] ⟨0, 10, 13, 19⟩ [⟨0, 10, 17, 13⟩] htab (fun z hz => absurd hz List.not_mem_nil) (by decide) (by decide) (hts (.classLink RL 19 eI) (by decide +kernel)) (xW_use hG.2.2.1 (.castable eI eI) (by decide +kernel)) hcell hcv hcl ?_
  refine lv_astore (lv' := [(4, .ref q9), (0, .ref (q 0)), (1, .int y0), (2, .int y1), (3, .ref o)]) hx hb dL_setOutflow_13 hl (by decide) rfl (fun ls hl => ?_)
  refine lv_iconst (v := nI 1) hx hb dL_setOutflow_15 (by decide) ?_
  subst hQ
  exact W.iret hx hb hr (fun t ht hWm => ⟨⟨_, (), rfl, rfl, (show va_P D cls2 _ t.heap from by rw [ht]; exact hP1)⟩, hS1.F ht⟩) hS1.2.2 dL_setOutflow_16
abbrev rz_L_setOutflow2 : Room := { frames := 9, cells := 1, slots := 6, locals := 158 }
set_option maxHeartbeats 4000000 in
set_option maxRecDepth 100000 in
theorem z_L_setOutflow2 {l : Launch} {sa : Nat → Nat} {D : va_G} {q : Nat → Nat} {o o2 : Nat} {cI cD cJ : ClassId} {a0 rC : Int32} {fi fo fw : Nat → Int32} {fe : Nat → UInt64} {ft fr fp fl : Nat → Int32} {ff : Nat → UInt64} {f1 : Nat → Int64} {f2 : Nat → UInt64} {y0 y1 : Int32} {rm : Room} (hrm : rm.cells = 1 ∧ rm.slots = 6 ∧ rm.frames ≤ 8 ∧ rm.locals ≤ 136) (hM : vx_Met l yX0_setOutflow wsX0_setOutflow rm (va_Pc [.ref (q 0), .int y0, .int y1] (xPre D (tys2 cI cD) (cW q cI cD a0 rC fi fo fw fe ft fr fp fl ff) sa)) (va_Qi (fun _ (_ : Unit) => False) (fun _ _ => True) (fun _ => False)) (xX eA) 1 6 (fun _ => False)) : Met l yL_setOutflow wsL_setOutflow rz_L_setOutflow2 (va_Pc [.ref (q 0), .int y0, .int y1, .ref o] (xPre D (tys3 cI cD cJ) (cW q cI cD a0 rC fi fo fw fe ft fr fp fl ff ++ oW o o2 cJ cD f1 f2) sa)) (va_Qi (fun r (_ : Unit) => r = nI 2) (fun _ t => va_P D cls2 (cW q cI cD a0 rC fi fo fw fe ft fr fp fl ff ++ oW o o2 cJ cD f1 f2) t.heap) (fun _ => False)) 1 6 (fun _ => False) := by
  refine met_introW (cc := cL_setOutflow) (maxL := 5) (ret := some .int) (hh := [(0, 10, 13, 19), (0, 10, 17, 13)]) (own := RL) (by decide) rfl rfl (Nat.le_of_ble_eq_true rfl) ?_
  intro pp ee ss mm args below meth cd Q ls hQ S hr hlocks htab hv hB hl
  obtain ⟨hx, hb, hml, hown, hts⟩ := id S
  obtain ⟨⟨hP, hK⟩, hG⟩ := hB
  have hl : lv_has ls 5 [(0, .ref (q 0)), (1, .int y0), (2, .int y1), (3, .ref o)] := hl
  have hP2 : va_P D cls2 (cW q cI cD a0 rC fi fo fw fe ft fr fp fl ff) ss.heap := hP.sub [0, 1, 2, 3, 4, 5, 6, 7, 8, 9] rfl
  have hK2 : va_K D cls2 (tys2 cI cD) ss := hK.sub [0, 1] rfl
  refine lv_aload_n hx hb dL_setOutflow_0 rfl (lv_at hl 3 rfl) ?_
  refine lv_iconst (v := nI 0) hx hb dL_setOutflow_1 (by decide) ?_
  refine lv_aload_n hx hb dL_setOutflow_2 rfl (lv_at hl 0 rfl) ?_
  refine lv_iload_n hx hb dL_setOutflow_3 rfl (lv_at hl 1 rfl) ?_
  refine lv_iload_n hx hb dL_setOutflow_4 rfl (lv_at hl 2 rfl) ?_
  refine vx_calli (vx_runV (As := [.int y0, .int y1]) (rest := [.int (nI 0), .ref o]) S hM (cwV 2 hts gL_setOutflow_X0_setOutflow rfl hrm.1 hrm.2.1 hdX0_setOutflow ⟨Nat.succ_le_succ hrm.2.2.1, Nat.le_trans (Nat.add_le_add_left hrm.2.2.2 _) (Nat.le_of_ble_eq_true rfl)⟩) (preX hK2 hP2 hG rfl rfl) rfl rfl hl.1 rfl (lv_room (Nat.le_of_ble_eq_true rfl)) dL_setOutflow_5 ⟨Nat.le_of_ble_eq_true rfl, Nat.le_of_ble_eq_true rfl⟩) (va_S.rf (A := fun _ => False)) (fun _ _ h => h) (fun _ h => h) (fun _ _ h => h) (fun E ce q9 u t H1 locs1 ht hvm hpx hBX hz hk9 hS1 hcell hcv hcl => ?_) (fun r u t H1 locs1 ht hvm hw _ _ _ _ => absurd hw id)
  replace hBX : E = eA := hBX
  subst hBX
  have hP1 : va_P D cls2 (cW q cI cD a0 rC fi fo fw fe ft fr fp fl ff ++ oW o o2 cJ cD f1 f2) H1 := fun k x hk => (hP k x hk).kept (hk9 _ (hP k x hk).lt (fun h => h))
  refine vx_catch (own := RL) (name := eA) (E := eA) hown [⟨0, 10, 13, 19⟩] ⟨0, 10, 17, 13⟩ [] htab (fun z hz => by rw [List.mem_singleton.mp hz]; exact Or.inr ⟨by decide, eI, hts (.classLink RL 19 eI) (by decide +kernel), hG.2.2.2.1⟩) (by decide) (by decide) (hts (.classLink RL 13 eA) (by decide +kernel)) (xW_use hG.2.2.1 (.castable eA eA) (by decide +kernel)) hcell hcv hcl ?_
  refine lv_astore (lv' := [(4, .ref q9), (0, .ref (q 0)), (1, .int y0), (2, .int y1), (3, .ref o)]) hx hb dL_setOutflow_17 hl (by decide) rfl (fun ls hl => ?_)
  refine lv_iconst (v := nI 2) hx hb dL_setOutflow_19 (by decide) ?_
  subst hQ
  exact W.iret hx hb hr (fun t ht hWm => ⟨⟨_, (), rfl, rfl, (show va_P D cls2 _ t.heap from by rw [ht]; exact hP1)⟩, hS1.F ht⟩) hS1.2.2 dL_setOutflow_20
abbrev rL_setWeight : Room := { frames := 3, cells := 0, slots := 0, locals := 68 }
theorem hdL_setWeight : yL_setWeight.cls ≠ "java/lang/invoke/MethodHandle" ∧ yL_setWeight.cls ≠ "java/lang/invoke/VarHandle" ∧ (parseMethodDescriptor yL_setWeight.desc).map (fun d => d.parameters.length) = some 5 := by decide +kernel
set_option maxHeartbeats 4000000 in
set_option maxRecDepth 100000 in
theorem k_L_setWeight {l : Launch} {D : va_G} {q : Nat → Nat} {o o2 : Nat} {cI cD cJ : ClassId} {a0 rC : Int32} {fi fo fw : Nat → Int32} {fe : Nat → UInt64} {ft fr fp fl : Nat → Int32} {ff : Nat → UInt64} {f1 : Nat → Int64} {f2 : Nat → UInt64} {T : Type} {post : Int32 → T → Prop} {wd : T → va_W} {y0 y1 y2 : Int32} (hM : Met l yX0_setWeight wsX0_setWeight rX0_setWeight (va_Pc [.ref (q 0), .int y0, .int y1, .int y2] (wPre D (tys2 cI cD) (cW q cI cD a0 rC fi fo fw fe ft fr fp fl ff))) (va_Qi post (fun u t => va_P D cls2 (wd u) t.heap) (qA q)) 0 0 (qA q)) (hwd : ∀ u, (wd u).map (fun x => x.1) = [q 0, q 1, q 2, q 3, q 4, q 5, q 6, q 7, q 8, q 9]) (hd : d12 q o o2) : Met l yL_setWeight wsL_setWeight rL_setWeight (va_Pc [.ref (q 0), .int y0, .int y1, .int y2, .ref o] (wPre D (tys3 cI cD cJ) (cW q cI cD a0 rC fi fo fw fe ft fr fp fl ff ++ oW o o2 cJ cD f1 f2))) (va_Qi (fun r (u : Int32 × T) => r = nI 0 ∧ post u.1 u.2) (fun u t => va_P D cls2 (wd u.2 ++ oW o o2 cJ cD (vp_updL f1 0 (Int32.toInt64 u.1)) f2) t.heap) (A12 q o o2)) 0 0 (A12 q o o2) := by
  refine met_introW (cc := cL_setWeight) (maxL := 6) (ret := some .int) (hh := [(0, 12, 15, 19), (0, 12, 19, 13)]) (own := RL) (by decide) rfl rfl (Nat.le_of_ble_eq_true rfl) ?_
  intro pp ee ss mm args below meth cd Q ls hQ S hr hlocks htab hv hB hl
  obtain ⟨hx, hb, hml, hown, hts⟩ := id S
  obtain ⟨hP, hK⟩ := hB
  have hl : lv_has ls 6 [(0, .ref (q 0)), (1, .int y0), (2, .int y1), (3, .int y2), (4, .ref o)] := hl
  have hP2 : va_P D cls2 (cW q cI cD a0 rC fi fo fw fe ft fr fp fl ff) ss.heap := hP.sub [0, 1, 2, 3, 4, 5, 6, 7, 8, 9] rfl
  have hK2 : va_K D cls2 (tys2 cI cD) ss := hK.sub [0, 1] rfl
  refine lv_aload hx hb dL_setWeight_0 (lv_at hl 4 rfl) ?_
  refine lv_iconst (v := nI 0) hx hb dL_setWeight_2 (by decide) ?_
  refine lv_aload_n hx hb dL_setWeight_3 rfl (lv_at hl 0 rfl) ?_
  refine lv_iload_n hx hb dL_setWeight_4 rfl (lv_at hl 1 rfl) ?_
  refine lv_iload_n hx hb dL_setWeight_5 rfl (lv_at hl 2 rfl) ?_
  refine lv_iload_n hx hb dL_setWeight_6 rfl (lv_at hl 3 rfl) ?_
  refine va_calli (va_runV (As := [.int y0, .int y1, .int y2]) (rest := [.int (nI 0), .ref o]) S hM (cwV 3 hts gL_setWeight_X0_setWeight rfl rfl rfl hdX0_setWeight ⟨Nat.le_of_ble_eq_true rfl, Nat.le_of_ble_eq_true rfl⟩) (preV hK2 hP2 rfl rfl) rfl rfl hl.1 rfl (lv_room (Nat.le_of_ble_eq_true rfl)) dL_setWeight_7 ⟨Nat.zero_le _, Nat.zero_le _⟩) (va_S.rf (A := A12 q o o2)) (fun _ _ h => Or.inl h) (fun _ h => Or.inl h) (fun r u t H locs ht hvm hw hB hz1 hk1 hS => ?_)
  replace hB : va_P D cls2 (wd u) t.heap := hB
  rw [ht] at hB
  have hP : va_P D cls2 (wd u ++ oW o o2 cJ cD f1 f2) H := glue (w := cW q cI cD a0 rC fi fo fw fe ft fr fp fl ff ++ oW o o2 cJ cD f1 f2) (w1 := cW q cI cD a0 rC fi fo fw fe ft fr fp fl ff) (w1' := wd u) (w2 := oW o o2 cJ cD f1 f2) hP (D12_of hd rfl) [0, 1, 2, 3, 4, 5, 6, 7, 8, 9] [10, 11] rfl rfl (by decide) (qA_in rfl) hk1 hB
  refine lv_i2l hx hb dL_setWeight_10 rfl ?_
  refine o_last (w := wd u) hx hb hK hP (hwd u) hd hS dL_setWeight_11 (fun H locs hP hS => ?_)
  refine lv_goto (tgt := 23) hx hb dL_setWeight_12 (by decide) ?_
  refine lv_iconst (v := nI 0) hx hb dL_setWeight_23 (by decide) ?_
  subst hQ
  exact W.iret hx hb hr (fun t ht hWm => ⟨⟨_, (r, u), rfl, ⟨rfl, hw⟩, (show va_P D cls2 _ t.heap from by rw [ht]; exact hP)⟩, hS.F ht⟩) hS.2.2 dL_setWeight_24
abbrev rz_L_setWeight1 : Room := { frames := 8, cells := 1, slots := 6, locals := 136 }
set_option maxHeartbeats 4000000 in
set_option maxRecDepth 100000 in
theorem z_L_setWeight1 {l : Launch} {sa : Nat → Nat} {D : va_G} {q : Nat → Nat} {o o2 : Nat} {cI cD cJ : ClassId} {a0 rC : Int32} {fi fo fw : Nat → Int32} {fe : Nat → UInt64} {ft fr fp fl : Nat → Int32} {ff : Nat → UInt64} {f1 : Nat → Int64} {f2 : Nat → UInt64} {y0 y1 y2 : Int32} {rm : Room} (hrm : rm.cells = 1 ∧ rm.slots = 6 ∧ rm.frames ≤ 7 ∧ rm.locals ≤ 112) (hM : vx_Met l yX0_setWeight wsX0_setWeight rm (va_Pc [.ref (q 0), .int y0, .int y1, .int y2] (xPre D (tys2 cI cD) (cW q cI cD a0 rC fi fo fw fe ft fr fp fl ff) sa)) (va_Qi (fun _ (_ : Unit) => False) (fun _ _ => True) (fun _ => False)) (xX eI) 1 6 (fun _ => False)) : Met l yL_setWeight wsL_setWeight rz_L_setWeight1 (va_Pc [.ref (q 0), .int y0, .int y1, .int y2, .ref o] (xPre D (tys3 cI cD cJ) (cW q cI cD a0 rC fi fo fw fe ft fr fp fl ff ++ oW o o2 cJ cD f1 f2) sa)) (va_Qi (fun r (_ : Unit) => r = nI 1) (fun _ t => va_P D cls2 (cW q cI cD a0 rC fi fo fw fe ft fr fp fl ff ++ oW o o2 cJ cD f1 f2) t.heap) (fun _ => False)) 1 6 (fun _ => False) := by
  refine met_introW (cc := cL_setWeight) (maxL := 6) (ret := some .int) (hh := [(0, 12, 15, 19), (0, 12, 19, 13)]) (own := RL) (by decide) rfl rfl (Nat.le_of_ble_eq_true rfl) ?_
  intro pp ee ss mm args below meth cd Q ls hQ S hr hlocks htab hv hB hl
  obtain ⟨hx, hb, hml, hown, hts⟩ := id S
  obtain ⟨⟨hP, hK⟩, hG⟩ := hB
  have hl : lv_has ls 6 [(0, .ref (q 0)), (1, .int y0), (2, .int y1), (3, .int y2), (4, .ref o)] := hl
  have hP2 : va_P D cls2 (cW q cI cD a0 rC fi fo fw fe ft fr fp fl ff) ss.heap := hP.sub [0, 1, 2, 3, 4, 5, 6, 7, 8, 9] rfl
  have hK2 : va_K D cls2 (tys2 cI cD) ss := hK.sub [0, 1] rfl
  refine lv_aload hx hb dL_setWeight_0 (lv_at hl 4 rfl) ?_
  refine lv_iconst (v := nI 0) hx hb dL_setWeight_2 (by decide) ?_
  refine lv_aload_n hx hb dL_setWeight_3 rfl (lv_at hl 0 rfl) ?_
  refine lv_iload_n hx hb dL_setWeight_4 rfl (lv_at hl 1 rfl) ?_
  refine lv_iload_n hx hb dL_setWeight_5 rfl (lv_at hl 2 rfl) ?_
  refine lv_iload_n hx hb dL_setWeight_6 rfl (lv_at hl 3 rfl) ?_
  refine vx_calli (vx_runV (As := [.int y0, .int y1, .int y2]) (rest := [.int (nI 0), .ref o]) S hM (cwV 3 hts gL_setWeight_X0_setWeight rfl hrm.1 hrm.2.1 hdX0_setWeight ⟨Nat.succ_le_succ hrm.2.2.1, Nat.le_trans (Nat.add_le_add_left hrm.2.2.2 _) (Nat.le_of_ble_eq_true rfl)⟩) (preX hK2 hP2 hG rfl rfl) rfl rfl hl.1 rfl (lv_room (Nat.le_of_ble_eq_true rfl)) dL_setWeight_7 ⟨Nat.le_of_ble_eq_true rfl, Nat.le_of_ble_eq_true rfl⟩) (va_S.rf (A := fun _ => False)) (fun _ _ h => h) (fun _ h => h) (fun _ _ h => h) (fun E ce q9 u t H1 locs1 ht hvm hpx hBX hz hk9 hS1 hcell hcv hcl => ?_) (fun r u t H1 locs1 ht hvm hw _ _ _ _ => absurd hw id)
  replace hBX : E = eI := hBX
  subst hBX
  have hP1 : va_P D cls2 (cW q cI cD a0 rC fi fo fw fe ft fr fp fl ff ++ oW o o2 cJ cD f1 f2) H1 := fun k x hk => (hP k x hk).kept (hk9 _ (hP k x hk).lt (fun h => h))
  refine vx_catch (own := RL) (name := eI) (E := eI) hown [] ⟨0, 12, 15, 19⟩ [⟨0, 12, 19, 13⟩] htab (fun z hz => absurd hz List.not_mem_nil) (by decide) (by decide) (hts (.classLink RL 19 eI) (by decide +kernel)) (xW_use hG.2.2.1 (.castable eI eI) (by decide +kernel)) hcell hcv hcl ?_
  refine lv_astore (lv' := [(5, .ref q9), (0, .ref (q 0)), (1, .int y0), (2, .int y1), (3, .int y2), (4, .ref o)]) hx hb dL_setWeight_15 hl (by decide) rfl (fun ls hl => ?_)
  refine lv_iconst (v := nI 1) hx hb dL_setWeight_17 (by decide) ?_
  subst hQ
  exact W.iret hx hb hr (fun t ht hWm => ⟨⟨_, (), rfl, rfl, (show va_P D cls2 _ t.heap from by rw [ht]; exact hP1)⟩, hS1.F ht⟩) hS1.2.2 dL_setWeight_18
abbrev rz_L_setWeight2 : Room := { frames := 8, cells := 1, slots := 6, locals := 136 }
set_option maxHeartbeats 4000000 in
set_option maxRecDepth 100000 in
theorem z_L_setWeight2 {l : Launch} {sa : Nat → Nat} {D : va_G} {q : Nat → Nat} {o o2 : Nat} {cI cD cJ : ClassId} {a0 rC : Int32} {fi fo fw : Nat → Int32} {fe : Nat → UInt64} {ft fr fp fl : Nat → Int32} {ff : Nat → UInt64} {f1 : Nat → Int64} {f2 : Nat → UInt64} {y0 y1 y2 : Int32} {rm : Room} (hrm : rm.cells = 1 ∧ rm.slots = 6 ∧ rm.frames ≤ 7 ∧ rm.locals ≤ 112) (hM : vx_Met l yX0_setWeight wsX0_setWeight rm (va_Pc [.ref (q 0), .int y0, .int y1, .int y2] (xPre D (tys2 cI cD) (cW q cI cD a0 rC fi fo fw fe ft fr fp fl ff) sa)) (va_Qi (fun _ (_ : Unit) => False) (fun _ _ => True) (fun _ => False)) (xX eA) 1 6 (fun _ => False)) : Met l yL_setWeight wsL_setWeight rz_L_setWeight2 (va_Pc [.ref (q 0), .int y0, .int y1, .int y2, .ref o] (xPre D (tys3 cI cD cJ) (cW q cI cD a0 rC fi fo fw fe ft fr fp fl ff ++ oW o o2 cJ cD f1 f2) sa)) (va_Qi (fun r (_ : Unit) => r = nI 2) (fun _ t => va_P D cls2 (cW q cI cD a0 rC fi fo fw fe ft fr fp fl ff ++ oW o o2 cJ cD f1 f2) t.heap) (fun _ => False)) 1 6 (fun _ => False) := by
  refine met_introW (cc := cL_setWeight) (maxL := 6) (ret := some .int) (hh := [(0, 12, 15, 19), (0, 12, 19, 13)]) (own := RL) (by decide) rfl rfl (Nat.le_of_ble_eq_true rfl) ?_
  intro pp ee ss mm args below meth cd Q ls hQ S hr hlocks htab hv hB hl
  obtain ⟨hx, hb, hml, hown, hts⟩ := id S
  obtain ⟨⟨hP, hK⟩, hG⟩ := hB
  have hl : lv_has ls 6 [(0, .ref (q 0)), (1, .int y0), (2, .int y1), (3, .int y2), (4, .ref o)] := hl
  have hP2 : va_P D cls2 (cW q cI cD a0 rC fi fo fw fe ft fr fp fl ff) ss.heap := hP.sub [0, 1, 2, 3, 4, 5, 6, 7, 8, 9] rfl
  have hK2 : va_K D cls2 (tys2 cI cD) ss := hK.sub [0, 1] rfl
  refine lv_aload hx hb dL_setWeight_0 (lv_at hl 4 rfl) ?_
  refine lv_iconst (v := nI 0) hx hb dL_setWeight_2 (by decide) ?_
  refine lv_aload_n hx hb dL_setWeight_3 rfl (lv_at hl 0 rfl) ?_
  refine lv_iload_n hx hb dL_setWeight_4 rfl (lv_at hl 1 rfl) ?_
  refine lv_iload_n hx hb dL_setWeight_5 rfl (lv_at hl 2 rfl) ?_
  refine lv_iload_n hx hb dL_setWeight_6 rfl (lv_at hl 3 rfl) ?_
  refine vx_calli (vx_runV (As := [.int y0, .int y1, .int y2]) (rest := [.int (nI 0), .ref o]) S hM (cwV 3 hts gL_setWeight_X0_setWeight rfl hrm.1 hrm.2.1 hdX0_setWeight ⟨Nat.succ_le_succ hrm.2.2.1, Nat.le_trans (Nat.add_le_add_left hrm.2.2.2 _) (Nat.le_of_ble_eq_true rfl)⟩) (preX hK2 hP2 hG rfl rfl) rfl rfl hl.1 rfl (lv_room (Nat.le_of_ble_eq_true rfl)) dL_setWeight_7 ⟨Nat.le_of_ble_eq_true rfl, Nat.le_of_ble_eq_true rfl⟩) (va_S.rf (A := fun _ => False)) (fun _ _ h => h) (fun _ h => h) (fun _ _ h => h) (fun E ce q9 u t H1 locs1 ht hvm hpx hBX hz hk9 hS1 hcell hcv hcl => ?_) (fun r u t H1 locs1 ht hvm hw _ _ _ _ => absurd hw id)
  replace hBX : E = eA := hBX
  subst hBX
  have hP1 : va_P D cls2 (cW q cI cD a0 rC fi fo fw fe ft fr fp fl ff ++ oW o o2 cJ cD f1 f2) H1 := fun k x hk => (hP k x hk).kept (hk9 _ (hP k x hk).lt (fun h => h))
  refine vx_catch (own := RL) (name := eA) (E := eA) hown [⟨0, 12, 15, 19⟩] ⟨0, 12, 19, 13⟩ [] htab (fun z hz => by rw [List.mem_singleton.mp hz]; exact Or.inr ⟨by decide, eI, hts (.classLink RL 19 eI) (by decide +kernel), hG.2.2.2.1⟩) (by decide) (by decide) (hts (.classLink RL 13 eA) (by decide +kernel)) (xW_use hG.2.2.1 (.castable eA eA) (by decide +kernel)) hcell hcv hcl ?_
  refine lv_astore (lv' := [(5, .ref q9), (0, .ref (q 0)), (1, .int y0), (2, .int y1), (3, .int y2), (4, .ref o)]) hx hb dL_setWeight_19 hl (by decide) rfl (fun ls hl => ?_)
  refine lv_iconst (v := nI 2) hx hb dL_setWeight_21 (by decide) ?_
  subst hQ
  exact W.iret hx hb hr (fun t ht hWm => ⟨⟨_, (), rfl, rfl, (show va_P D cls2 _ t.heap from by rw [ht]; exact hP1)⟩, hS1.F ht⟩) hS1.2.2 dL_setWeight_22
abbrev rL_scale : Room := { frames := 3, cells := 0, slots := 0, locals := 65 }
theorem hdL_scale : yL_scale.cls ≠ "java/lang/invoke/MethodHandle" ∧ yL_scale.cls ≠ "java/lang/invoke/VarHandle" ∧ (parseMethodDescriptor yL_scale.desc).map (fun d => d.parameters.length) = some 3 := by decide +kernel
set_option maxHeartbeats 4000000 in
set_option maxRecDepth 100000 in
theorem k_L_scale {l : Launch} {D : va_G} {q : Nat → Nat} {o o2 : Nat} {cI cD cJ : ClassId} {a0 rC : Int32} {fi fo fw : Nat → Int32} {fe : Nat → UInt64} {ft fr fp fl : Nat → Int32} {ff : Nat → UInt64} {f1 : Nat → Int64} {f2 : Nat → UInt64} {T : Type} {post : Int32 → T → Prop} {wd : T → va_W} {y0 : Int32} (hM : Met l yX0_scale wsX0_scale rX0_scale (va_Pc [.ref (q 0), .int y0] (wPre D (tys2 cI cD) (cW q cI cD a0 rC fi fo fw fe ft fr fp fl ff))) (va_Qi post (fun u t => va_P D cls2 (wd u) t.heap) (qA q)) 0 0 (qA q)) (hwd : ∀ u, (wd u).map (fun x => x.1) = [q 0, q 1, q 2, q 3, q 4, q 5, q 6, q 7, q 8, q 9]) (hd : d12 q o o2) : Met l yL_scale wsL_scale rL_scale (va_Pc [.ref (q 0), .int y0, .ref o] (wPre D (tys3 cI cD cJ) (cW q cI cD a0 rC fi fo fw fe ft fr fp fl ff ++ oW o o2 cJ cD f1 f2))) (va_Qi (fun r (u : Int32 × T) => r = nI 0 ∧ post u.1 u.2) (fun u t => va_P D cls2 (wd u.2 ++ oW o o2 cJ cD (vp_updL f1 0 (Int32.toInt64 u.1)) f2) t.heap) (A12 q o o2)) 0 0 (A12 q o o2) := by
  refine met_introW (cc := cL_scale) (maxL := 4) (ret := some .int) (hh := [(0, 9, 12, 13), (0, 9, 15, 31)]) (own := RL) (by decide) rfl rfl (Nat.le_of_ble_eq_true rfl) ?_
  intro pp ee ss mm args below meth cd Q ls hQ S hr hlocks htab hv hB hl
  obtain ⟨hx, hb, hml, hown, hts⟩ := id S
  obtain ⟨hP, hK⟩ := hB
  have hl : lv_has ls 4 [(0, .ref (q 0)), (1, .int y0), (2, .ref o)] := hl
  have hP2 : va_P D cls2 (cW q cI cD a0 rC fi fo fw fe ft fr fp fl ff) ss.heap := hP.sub [0, 1, 2, 3, 4, 5, 6, 7, 8, 9] rfl
  have hK2 : va_K D cls2 (tys2 cI cD) ss := hK.sub [0, 1] rfl
  refine lv_aload_n hx hb dL_scale_0 rfl (lv_at hl 2 rfl) ?_
  refine lv_iconst (v := nI 0) hx hb dL_scale_1 (by decide) ?_
  refine lv_aload_n hx hb dL_scale_2 rfl (lv_at hl 0 rfl) ?_
  refine lv_iload_n hx hb dL_scale_3 rfl (lv_at hl 1 rfl) ?_
  refine va_calli (va_runV (As := [.int y0]) (rest := [.int (nI 0), .ref o]) S hM (cwV 1 hts gL_scale_X0_scale rfl rfl rfl hdX0_scale ⟨Nat.le_of_ble_eq_true rfl, Nat.le_of_ble_eq_true rfl⟩) (preV hK2 hP2 rfl rfl) rfl rfl hl.1 rfl (lv_room (Nat.le_of_ble_eq_true rfl)) dL_scale_4 ⟨Nat.zero_le _, Nat.zero_le _⟩) (va_S.rf (A := A12 q o o2)) (fun _ _ h => Or.inl h) (fun _ h => Or.inl h) (fun r u t H locs ht hvm hw hB hz1 hk1 hS => ?_)
  replace hB : va_P D cls2 (wd u) t.heap := hB
  rw [ht] at hB
  have hP : va_P D cls2 (wd u ++ oW o o2 cJ cD f1 f2) H := glue (w := cW q cI cD a0 rC fi fo fw fe ft fr fp fl ff ++ oW o o2 cJ cD f1 f2) (w1 := cW q cI cD a0 rC fi fo fw fe ft fr fp fl ff) (w1' := wd u) (w2 := oW o o2 cJ cD f1 f2) hP (D12_of hd rfl) [0, 1, 2, 3, 4, 5, 6, 7, 8, 9] [10, 11] rfl rfl (by decide) (qA_in rfl) hk1 hB
  refine lv_i2l hx hb dL_scale_7 rfl ?_
  refine o_last (w := wd u) hx hb hK hP (hwd u) hd hS dL_scale_8 (fun H locs hP hS => ?_)
  refine lv_goto (tgt := 18) hx hb dL_scale_9 (by decide) ?_
  refine lv_iconst (v := nI 0) hx hb dL_scale_18 (by decide) ?_
  subst hQ
  exact W.iret hx hb hr (fun t ht hWm => ⟨⟨_, (r, u), rfl, ⟨rfl, hw⟩, (show va_P D cls2 _ t.heap from by rw [ht]; exact hP)⟩, hS.F ht⟩) hS.2.2 dL_scale_19
abbrev rz_L_scale1 : Room := { frames := 8, cells := 1, slots := 6, locals := 134 }
set_option maxHeartbeats 4000000 in
set_option maxRecDepth 100000 in
theorem z_L_scale1 {l : Launch} {sa : Nat → Nat} {D : va_G} {q : Nat → Nat} {o o2 : Nat} {cI cD cJ : ClassId} {a0 rC : Int32} {fi fo fw : Nat → Int32} {fe : Nat → UInt64} {ft fr fp fl : Nat → Int32} {ff : Nat → UInt64} {f1 : Nat → Int64} {f2 : Nat → UInt64} {y0 : Int32} {rm : Room} (hrm : rm.cells = 1 ∧ rm.slots = 6 ∧ rm.frames ≤ 7 ∧ rm.locals ≤ 112) (hM : vx_Met l yX0_scale wsX0_scale rm (va_Pc [.ref (q 0), .int y0] (xPre D (tys2 cI cD) (cW q cI cD a0 rC fi fo fw fe ft fr fp fl ff) sa)) (va_Qi (fun _ (_ : Unit) => False) (fun _ _ => True) (fun _ => False)) (xX eA) 1 6 (fun _ => False)) : Met l yL_scale wsL_scale rz_L_scale1 (va_Pc [.ref (q 0), .int y0, .ref o] (xPre D (tys3 cI cD cJ) (cW q cI cD a0 rC fi fo fw fe ft fr fp fl ff ++ oW o o2 cJ cD f1 f2) sa)) (va_Qi (fun r (_ : Unit) => r = nI 1) (fun _ t => va_P D cls2 (cW q cI cD a0 rC fi fo fw fe ft fr fp fl ff ++ oW o o2 cJ cD f1 f2) t.heap) (fun _ => False)) 1 6 (fun _ => False) := by
  refine met_introW (cc := cL_scale) (maxL := 4) (ret := some .int) (hh := [(0, 9, 12, 13), (0, 9, 15, 31)]) (own := RL) (by decide) rfl rfl (Nat.le_of_ble_eq_true rfl) ?_
  intro pp ee ss mm args below meth cd Q ls hQ S hr hlocks htab hv hB hl
  obtain ⟨hx, hb, hml, hown, hts⟩ := id S
  obtain ⟨⟨hP, hK⟩, hG⟩ := hB
  have hl : lv_has ls 4 [(0, .ref (q 0)), (1, .int y0), (2, .ref o)] := hl
  have hP2 : va_P D cls2 (cW q cI cD a0 rC fi fo fw fe ft fr fp fl ff) ss.heap := hP.sub [0, 1, 2, 3, 4, 5, 6, 7, 8, 9] rfl
  have hK2 : va_K D cls2 (tys2 cI cD) ss := hK.sub [0, 1] rfl
  refine lv_aload_n hx hb dL_scale_0 rfl (lv_at hl 2 rfl) ?_
  refine lv_iconst (v := nI 0) hx hb dL_scale_1 (by decide) ?_
  refine lv_aload_n hx hb dL_scale_2 rfl (lv_at hl 0 rfl) ?_
  refine lv_iload_n hx hb dL_scale_3 rfl (lv_at hl 1 rfl) ?_
  refine vx_calli (vx_runV (As := [.int y0]) (rest := [.int (nI 0), .ref o]) S hM (cwV 1 hts gL_scale_X0_scale rfl hrm.1 hrm.2.1 hdX0_scale ⟨Nat.succ_le_succ hrm.2.2.1, Nat.le_trans (Nat.add_le_add_left hrm.2.2.2 _) (Nat.le_of_ble_eq_true rfl)⟩) (preX hK2 hP2 hG rfl rfl) rfl rfl hl.1 rfl (lv_room (Nat.le_of_ble_eq_true rfl)) dL_scale_4 ⟨Nat.le_of_ble_eq_true rfl, Nat.le_of_ble_eq_true rfl⟩) (va_S.rf (A := fun _ => False)) (fun _ _ h => h) (fun _ h => h) (fun _ _ h => h) (fun E ce q9 u t H1 locs1 ht hvm hpx hBX hz hk9 hS1 hcell hcv hcl => ?_) (fun r u t H1 locs1 ht hvm hw _ _ _ _ => absurd hw id)
  replace hBX : E = eA := hBX
  subst hBX
  have hP1 : va_P D cls2 (cW q cI cD a0 rC fi fo fw fe ft fr fp fl ff ++ oW o o2 cJ cD f1 f2) H1 := fun k x hk => (hP k x hk).kept (hk9 _ (hP k x hk).lt (fun h => h))
  refine vx_catch (own := RL) (name := eA) (E := eA) hown [] ⟨0, 9, 12, 13⟩ [⟨0, 9, 15, 31⟩] htab (fun z hz => absurd hz List.not_mem_nil) (by decide) (by decide) (hts (.classLink RL 13 eA) (by decide +kernel)) (xW_use hG.2.2.1 (.castable eA eA) (by decide +kernel)) hcell hcv hcl ?_
  refine lv_astore_n (lv' := [(3, .ref q9), (0, .ref (q 0)), (1, .int y0), (2, .ref o)]) hx hb dL_scale_12 rfl hl (by decide) rfl (fun ls hl => ?_)
  refine lv_iconst (v := nI 1) hx hb dL_scale_13 (by decide) ?_
  subst hQ
  exact W.iret hx hb hr (fun t ht hWm => ⟨⟨_, (), rfl, rfl, (show va_P D cls2 _ t.heap from by rw [ht]; exact hP1)⟩, hS1.F ht⟩) hS1.2.2 dL_scale_14
abbrev rz_L_scale2 : Room := { frames := 8, cells := 1, slots := 6, locals := 134 }
set_option maxHeartbeats 4000000 in
set_option maxRecDepth 100000 in
theorem z_L_scale2 {l : Launch} {sa : Nat → Nat} {D : va_G} {q : Nat → Nat} {o o2 : Nat} {cI cD cJ : ClassId} {a0 rC : Int32} {fi fo fw : Nat → Int32} {fe : Nat → UInt64} {ft fr fp fl : Nat → Int32} {ff : Nat → UInt64} {f1 : Nat → Int64} {f2 : Nat → UInt64} {y0 : Int32} {rm : Room} (hrm : rm.cells = 1 ∧ rm.slots = 6 ∧ rm.frames ≤ 7 ∧ rm.locals ≤ 112) (hM : vx_Met l yX0_scale wsX0_scale rm (va_Pc [.ref (q 0), .int y0] (xPre D (tys2 cI cD) (cW q cI cD a0 rC fi fo fw fe ft fr fp fl ff) sa)) (va_Qi (fun _ (_ : Unit) => False) (fun _ _ => True) (fun _ => False)) (xX eS) 1 6 (fun _ => False)) : Met l yL_scale wsL_scale rz_L_scale2 (va_Pc [.ref (q 0), .int y0, .ref o] (xPre D (tys3 cI cD cJ) (cW q cI cD a0 rC fi fo fw fe ft fr fp fl ff ++ oW o o2 cJ cD f1 f2) sa)) (va_Qi (fun r (_ : Unit) => r = nI 2) (fun _ t => va_P D cls2 (cW q cI cD a0 rC fi fo fw fe ft fr fp fl ff ++ oW o o2 cJ cD f1 f2) t.heap) (fun _ => False)) 1 6 (fun _ => False) := by
  refine met_introW (cc := cL_scale) (maxL := 4) (ret := some .int) (hh := [(0, 9, 12, 13), (0, 9, 15, 31)]) (own := RL) (by decide) rfl rfl (Nat.le_of_ble_eq_true rfl) ?_
  intro pp ee ss mm args below meth cd Q ls hQ S hr hlocks htab hv hB hl
  obtain ⟨hx, hb, hml, hown, hts⟩ := id S
  obtain ⟨⟨hP, hK⟩, hG⟩ := hB
  have hl : lv_has ls 4 [(0, .ref (q 0)), (1, .int y0), (2, .ref o)] := hl
  have hP2 : va_P D cls2 (cW q cI cD a0 rC fi fo fw fe ft fr fp fl ff) ss.heap := hP.sub [0, 1, 2, 3, 4, 5, 6, 7, 8, 9] rfl
  have hK2 : va_K D cls2 (tys2 cI cD) ss := hK.sub [0, 1] rfl
  refine lv_aload_n hx hb dL_scale_0 rfl (lv_at hl 2 rfl) ?_
  refine lv_iconst (v := nI 0) hx hb dL_scale_1 (by decide) ?_
  refine lv_aload_n hx hb dL_scale_2 rfl (lv_at hl 0 rfl) ?_
  refine lv_iload_n hx hb dL_scale_3 rfl (lv_at hl 1 rfl) ?_
  refine vx_calli (vx_runV (As := [.int y0]) (rest := [.int (nI 0), .ref o]) S hM (cwV 1 hts gL_scale_X0_scale rfl hrm.1 hrm.2.1 hdX0_scale ⟨Nat.succ_le_succ hrm.2.2.1, Nat.le_trans (Nat.add_le_add_left hrm.2.2.2 _) (Nat.le_of_ble_eq_true rfl)⟩) (preX hK2 hP2 hG rfl rfl) rfl rfl hl.1 rfl (lv_room (Nat.le_of_ble_eq_true rfl)) dL_scale_4 ⟨Nat.le_of_ble_eq_true rfl, Nat.le_of_ble_eq_true rfl⟩) (va_S.rf (A := fun _ => False)) (fun _ _ h => h) (fun _ h => h) (fun _ _ h => h) (fun E ce q9 u t H1 locs1 ht hvm hpx hBX hz hk9 hS1 hcell hcv hcl => ?_) (fun r u t H1 locs1 ht hvm hw _ _ _ _ => absurd hw id)
  replace hBX : E = eS := hBX
  subst hBX
  have hP1 : va_P D cls2 (cW q cI cD a0 rC fi fo fw fe ft fr fp fl ff ++ oW o o2 cJ cD f1 f2) H1 := fun k x hk => (hP k x hk).kept (hk9 _ (hP k x hk).lt (fun h => h))
  refine vx_catch (own := RL) (name := eS) (E := eS) hown [⟨0, 9, 12, 13⟩] ⟨0, 9, 15, 31⟩ [] htab (fun z hz => by rw [List.mem_singleton.mp hz]; exact Or.inr ⟨by decide, eA, hts (.classLink RL 13 eA) (by decide +kernel), hG.2.2.2.2.1⟩) (by decide) (by decide) (hts (.classLink RL 31 eS) (by decide +kernel)) (xW_use hG.2.2.1 (.castable eS eS) (by decide +kernel)) hcell hcv hcl ?_
  refine lv_astore_n (lv' := [(3, .ref q9), (0, .ref (q 0)), (1, .int y0), (2, .ref o)]) hx hb dL_scale_15 rfl hl (by decide) rfl (fun ls hl => ?_)
  refine lv_iconst (v := nI 2) hx hb dL_scale_16 (by decide) ?_
  subst hQ
  exact W.iret hx hb hr (fun t ht hWm => ⟨⟨_, (), rfl, rfl, (show va_P D cls2 _ t.heap from by rw [ht]; exact hP1)⟩, hS1.F ht⟩) hS1.2.2 dL_scale_17
abbrev rL_excess : Room := { frames := 4, cells := 0, slots := 0, locals := 90 }
theorem hdL_excess : yL_excess.cls ≠ "java/lang/invoke/MethodHandle" ∧ yL_excess.cls ≠ "java/lang/invoke/VarHandle" ∧ (parseMethodDescriptor yL_excess.desc).map (fun d => d.parameters.length) = some 3 := by decide +kernel
set_option maxHeartbeats 4000000 in
set_option maxRecDepth 100000 in
theorem k_L_excess {l : Launch} {D : va_G} {q : Nat → Nat} {o o2 : Nat} {cI cD cJ : ClassId} {a0 rC : Int32} {fi fo fw : Nat → Int32} {fe : Nat → UInt64} {ft fr fp fl : Nat → Int32} {ff : Nat → UInt64} {f1 : Nat → Int64} {f2 : Nat → UInt64} {post : Int32 → Prop} {y0 : Int32} (hM : Met l yX0_excess wsX0_excess rX0_excess (va_Pc [.ref (q 0), .int y0] (wPre D (tys2 cI cD) (cW q cI cD a0 rC fi fo fw fe ft fr fp fl ff))) (vp_Si post) 0 0 (fun _ => False)) (hd : d12 q o o2) : Met l yL_excess wsL_excess rL_excess (va_Pc [.ref (q 0), .int y0, .ref o] (wPre D (tys3 cI cD cJ) (cW q cI cD a0 rC fi fo fw fe ft fr fp fl ff ++ oW o o2 cJ cD f1 f2))) (va_Qi (fun r (u : Int32) => r = nI 0 ∧ post u) (fun u t => va_P D cls2 (cW q cI cD a0 rC fi fo fw fe ft fr fp fl ff ++ oW o o2 cJ cD (vp_updL f1 0 (Int32.toInt64 u)) f2) t.heap) (A12 q o o2)) 0 0 (A12 q o o2) := by
  refine met_introW (cc := cL_excess) (maxL := 4) (ret := some .int) (hh := [(0, 9, 12, 13)]) (own := RL) (by decide) rfl rfl (Nat.le_of_ble_eq_true rfl) ?_
  intro pp ee ss mm args below meth cd Q ls hQ S hr hlocks htab hv hB hl
  obtain ⟨hx, hb, hml, hown, hts⟩ := id S
  obtain ⟨hP, hK⟩ := hB
  have hl : lv_has ls 4 [(0, .ref (q 0)), (1, .int y0), (2, .ref o)] := hl
  have hP2 : va_P D cls2 (cW q cI cD a0 rC fi fo fw fe ft fr fp fl ff) ss.heap := hP.sub [0, 1, 2, 3, 4, 5, 6, 7, 8, 9] rfl
  have hK2 : va_K D cls2 (tys2 cI cD) ss := hK.sub [0, 1] rfl
  refine lv_aload_n hx hb dL_excess_0 rfl (lv_at hl 2 rfl) ?_
  refine lv_iconst (v := nI 0) hx hb dL_excess_1 (by decide) ?_
  refine lv_aload_n hx hb dL_excess_2 rfl (lv_at hl 0 rfl) ?_
  refine lv_iload_n hx hb dL_excess_3 rfl (lv_at hl 1 rfl) ?_
  refine vp_callSi (W.runV (As := [.int y0]) (rest := [.int (nI 0), .ref o]) S hM (cwV 1 hts gL_excess_X0_excess rfl rfl rfl hdX0_excess ⟨Nat.le_of_ble_eq_true rfl, Nat.le_of_ble_eq_true rfl⟩) (preV hK2 hP2 rfl rfl) rfl rfl hl.1 rfl (lv_room (Nat.le_of_ble_eq_true rfl)) dL_excess_4 ⟨Nat.zero_le _, Nat.zero_le _⟩) (fun r er => ?_)
  have hS : va_S (A12 q o o2) ss.heap ss.heap [] := va_S.rf
  refine lv_i2l hx hb dL_excess_7 rfl ?_
  refine o_last (w := cW q cI cD a0 rC fi fo fw fe ft fr fp fl ff) hx hb hK hP rfl hd hS dL_excess_8 (fun H locs hP hS => ?_)
  refine lv_goto (tgt := 15) hx hb dL_excess_9 (by decide) ?_
  refine lv_iconst (v := nI 0) hx hb dL_excess_15 (by decide) ?_
  subst hQ
  exact W.iret hx hb hr (fun t ht hWm => ⟨⟨_, r, rfl, ⟨rfl, er⟩, (show va_P D cls2 _ t.heap from by rw [ht]; exact hP)⟩, hS.F ht⟩) hS.2.2 dL_excess_16
abbrev rz_L_excess1 : Room := { frames := 8, cells := 1, slots := 6, locals := 133 }
set_option maxHeartbeats 4000000 in
set_option maxRecDepth 100000 in
theorem z_L_excess1 {l : Launch} {sa : Nat → Nat} {D : va_G} {q : Nat → Nat} {o o2 : Nat} {cI cD cJ : ClassId} {a0 rC : Int32} {fi fo fw : Nat → Int32} {fe : Nat → UInt64} {ft fr fp fl : Nat → Int32} {ff : Nat → UInt64} {f1 : Nat → Int64} {f2 : Nat → UInt64} {y0 : Int32} {rm : Room} (hrm : rm.cells = 1 ∧ rm.slots = 6 ∧ rm.frames ≤ 7 ∧ rm.locals ≤ 112) (hM : vx_Met l yX0_excess wsX0_excess rm (va_Pc [.ref (q 0), .int y0] (xPre D (tys2 cI cD) (cW q cI cD a0 rC fi fo fw fe ft fr fp fl ff) sa)) (va_Qi (fun _ (_ : Unit) => False) (fun _ _ => True) (fun _ => False)) (xX eA) 1 6 (fun _ => False)) : Met l yL_excess wsL_excess rz_L_excess1 (va_Pc [.ref (q 0), .int y0, .ref o] (xPre D (tys3 cI cD cJ) (cW q cI cD a0 rC fi fo fw fe ft fr fp fl ff ++ oW o o2 cJ cD f1 f2) sa)) (va_Qi (fun r (_ : Unit) => r = nI 1) (fun _ t => va_P D cls2 (cW q cI cD a0 rC fi fo fw fe ft fr fp fl ff ++ oW o o2 cJ cD f1 f2) t.heap) (fun _ => False)) 1 6 (fun _ => False) := by
  refine met_introW (cc := cL_excess) (maxL := 4) (ret := some .int) (hh := [(0, 9, 12, 13)]) (own := RL) (by decide) rfl rfl (Nat.le_of_ble_eq_true rfl) ?_
  intro pp ee ss mm args below meth cd Q ls hQ S hr hlocks htab hv hB hl
  obtain ⟨hx, hb, hml, hown, hts⟩ := id S
  obtain ⟨⟨hP, hK⟩, hG⟩ := hB
  have hl : lv_has ls 4 [(0, .ref (q 0)), (1, .int y0), (2, .ref o)] := hl
  have hP2 : va_P D cls2 (cW q cI cD a0 rC fi fo fw fe ft fr fp fl ff) ss.heap := hP.sub [0, 1, 2, 3, 4, 5, 6, 7, 8, 9] rfl
  have hK2 : va_K D cls2 (tys2 cI cD) ss := hK.sub [0, 1] rfl
  refine lv_aload_n hx hb dL_excess_0 rfl (lv_at hl 2 rfl) ?_
  refine lv_iconst (v := nI 0) hx hb dL_excess_1 (by decide) ?_
  refine lv_aload_n hx hb dL_excess_2 rfl (lv_at hl 0 rfl) ?_
  refine lv_iload_n hx hb dL_excess_3 rfl (lv_at hl 1 rfl) ?_
  refine vx_calli (vx_runV (As := [.int y0]) (rest := [.int (nI 0), .ref o]) S hM (cwV 1 hts gL_excess_X0_excess rfl hrm.1 hrm.2.1 hdX0_excess ⟨Nat.succ_le_succ hrm.2.2.1, Nat.le_trans (Nat.add_le_add_left hrm.2.2.2 _) (Nat.le_of_ble_eq_true rfl)⟩) (preX hK2 hP2 hG rfl rfl) rfl rfl hl.1 rfl (lv_room (Nat.le_of_ble_eq_true rfl)) dL_excess_4 ⟨Nat.le_of_ble_eq_true rfl, Nat.le_of_ble_eq_true rfl⟩) (va_S.rf (A := fun _ => False)) (fun _ _ h => h) (fun _ h => h) (fun _ _ h => h) (fun E ce q9 u t H1 locs1 ht hvm hpx hBX hz hk9 hS1 hcell hcv hcl => ?_) (fun r u t H1 locs1 ht hvm hw _ _ _ _ => absurd hw id)
  replace hBX : E = eA := hBX
  subst hBX
  have hP1 : va_P D cls2 (cW q cI cD a0 rC fi fo fw fe ft fr fp fl ff ++ oW o o2 cJ cD f1 f2) H1 := fun k x hk => (hP k x hk).kept (hk9 _ (hP k x hk).lt (fun h => h))
  refine vx_catch (own := RL) (name := eA) (E := eA) hown [] ⟨0, 9, 12, 13⟩ [] htab (fun z hz => absurd hz List.not_mem_nil) (by decide) (by decide) (hts (.classLink RL 13 eA) (by decide +kernel)) (xW_use hG.2.2.1 (.castable eA eA) (by decide +kernel)) hcell hcv hcl ?_
  refine lv_astore_n (lv' := [(3, .ref q9), (0, .ref (q 0)), (1, .int y0), (2, .ref o)]) hx hb dL_excess_12 rfl hl (by decide) rfl (fun ls hl => ?_)
  refine lv_iconst (v := nI 1) hx hb dL_excess_13 (by decide) ?_
  subst hQ
  exact W.iret hx hb hr (fun t ht hWm => ⟨⟨_, (), rfl, rfl, (show va_P D cls2 _ t.heap from by rw [ht]; exact hP1)⟩, hS1.F ht⟩) hS1.2.2 dL_excess_14
abbrev rL_iterate : Room := { frames := 5, cells := 0, slots := 0, locals := 114 }
theorem hdL_iterate : yL_iterate.cls ≠ "java/lang/invoke/MethodHandle" ∧ yL_iterate.cls ≠ "java/lang/invoke/VarHandle" ∧ (parseMethodDescriptor yL_iterate.desc).map (fun d => d.parameters.length) = some 3 := by decide +kernel
set_option maxHeartbeats 4000000 in
set_option maxRecDepth 100000 in
theorem k_L_iterate {l : Launch} {D : va_G} {q : Nat → Nat} {o o2 : Nat} {cI cD cJ : ClassId} {a0 rC : Int32} {fi fo fw : Nat → Int32} {fe : Nat → UInt64} {ft fr fp fl : Nat → Int32} {ff : Nat → UInt64} {f1 : Nat → Int64} {f2 : Nat → UInt64} {T : Type} {post : Int32 → T → Prop} {wd : T → va_W} {y0 : Int32} (hM : Met l yX0_iterate wsX0_iterate rX0_iterate (va_Pc [.ref (q 0), .int y0] (wPre D (tys2 cI cD) (cW q cI cD a0 rC fi fo fw fe ft fr fp fl ff))) (va_Qi post (fun u t => va_P D cls2 (wd u) t.heap) (qA q)) 0 0 (qA q)) (hwd : ∀ u, (wd u).map (fun x => x.1) = [q 0, q 1, q 2, q 3, q 4, q 5, q 6, q 7, q 8, q 9]) (hd : d12 q o o2) : Met l yL_iterate wsL_iterate rL_iterate (va_Pc [.ref (q 0), .int y0, .ref o] (wPre D (tys3 cI cD cJ) (cW q cI cD a0 rC fi fo fw fe ft fr fp fl ff ++ oW o o2 cJ cD f1 f2))) (va_Qi (fun r (u : Int32 × T) => r = nI 0 ∧ post u.1 u.2) (fun u t => va_P D cls2 (wd u.2 ++ oW o o2 cJ cD (vp_updL f1 0 (Int32.toInt64 u.1)) f2) t.heap) (A12 q o o2)) 0 0 (A12 q o o2) := by
  refine met_introW (cc := cL_iterate) (maxL := 4) (ret := some .int) (hh := [(0, 9, 12, 13)]) (own := RL) (by decide) rfl rfl (Nat.le_of_ble_eq_true rfl) ?_
  intro pp ee ss mm args below meth cd Q ls hQ S hr hlocks htab hv hB hl
  obtain ⟨hx, hb, hml, hown, hts⟩ := id S
  obtain ⟨hP, hK⟩ := hB
  have hl : lv_has ls 4 [(0, .ref (q 0)), (1, .int y0), (2, .ref o)] := hl
  have hP2 : va_P D cls2 (cW q cI cD a0 rC fi fo fw fe ft fr fp fl ff) ss.heap := hP.sub [0, 1, 2, 3, 4, 5, 6, 7, 8, 9] rfl
  have hK2 : va_K D cls2 (tys2 cI cD) ss := hK.sub [0, 1] rfl
  refine lv_aload_n hx hb dL_iterate_0 rfl (lv_at hl 2 rfl) ?_
  refine lv_iconst (v := nI 0) hx hb dL_iterate_1 (by decide) ?_
  refine lv_aload_n hx hb dL_iterate_2 rfl (lv_at hl 0 rfl) ?_
  refine lv_iload_n hx hb dL_iterate_3 rfl (lv_at hl 1 rfl) ?_
  refine va_calli (va_runV (As := [.int y0]) (rest := [.int (nI 0), .ref o]) S hM (cwV 1 hts gL_iterate_X0_iterate rfl rfl rfl hdX0_iterate ⟨Nat.le_of_ble_eq_true rfl, Nat.le_of_ble_eq_true rfl⟩) (preV hK2 hP2 rfl rfl) rfl rfl hl.1 rfl (lv_room (Nat.le_of_ble_eq_true rfl)) dL_iterate_4 ⟨Nat.zero_le _, Nat.zero_le _⟩) (va_S.rf (A := A12 q o o2)) (fun _ _ h => Or.inl h) (fun _ h => Or.inl h) (fun r u t H locs ht hvm hw hB hz1 hk1 hS => ?_)
  replace hB : va_P D cls2 (wd u) t.heap := hB
  rw [ht] at hB
  have hP : va_P D cls2 (wd u ++ oW o o2 cJ cD f1 f2) H := glue (w := cW q cI cD a0 rC fi fo fw fe ft fr fp fl ff ++ oW o o2 cJ cD f1 f2) (w1 := cW q cI cD a0 rC fi fo fw fe ft fr fp fl ff) (w1' := wd u) (w2 := oW o o2 cJ cD f1 f2) hP (D12_of hd rfl) [0, 1, 2, 3, 4, 5, 6, 7, 8, 9] [10, 11] rfl rfl (by decide) (qA_in rfl) hk1 hB
  refine lv_i2l hx hb dL_iterate_7 rfl ?_
  refine o_last (w := wd u) hx hb hK hP (hwd u) hd hS dL_iterate_8 (fun H locs hP hS => ?_)
  refine lv_goto (tgt := 15) hx hb dL_iterate_9 (by decide) ?_
  refine lv_iconst (v := nI 0) hx hb dL_iterate_15 (by decide) ?_
  subst hQ
  exact W.iret hx hb hr (fun t ht hWm => ⟨⟨_, (r, u), rfl, ⟨rfl, hw⟩, (show va_P D cls2 _ t.heap from by rw [ht]; exact hP)⟩, hS.F ht⟩) hS.2.2 dL_iterate_16
abbrev rz_L_iterate1 : Room := { frames := 8, cells := 1, slots := 6, locals := 134 }
set_option maxHeartbeats 4000000 in
set_option maxRecDepth 100000 in
theorem z_L_iterate1 {l : Launch} {sa : Nat → Nat} {D : va_G} {q : Nat → Nat} {o o2 : Nat} {cI cD cJ : ClassId} {a0 rC : Int32} {fi fo fw : Nat → Int32} {fe : Nat → UInt64} {ft fr fp fl : Nat → Int32} {ff : Nat → UInt64} {f1 : Nat → Int64} {f2 : Nat → UInt64} {y0 : Int32} {rm : Room} (hrm : rm.cells = 1 ∧ rm.slots = 6 ∧ rm.frames ≤ 7 ∧ rm.locals ≤ 112) (hM : vx_Met l yX0_iterate wsX0_iterate rm (va_Pc [.ref (q 0), .int y0] (xPre D (tys2 cI cD) (cW q cI cD a0 rC fi fo fw fe ft fr fp fl ff) sa)) (va_Qi (fun _ (_ : Unit) => False) (fun _ _ => True) (fun _ => False)) (xX eA) 1 6 (fun _ => False)) : Met l yL_iterate wsL_iterate rz_L_iterate1 (va_Pc [.ref (q 0), .int y0, .ref o] (xPre D (tys3 cI cD cJ) (cW q cI cD a0 rC fi fo fw fe ft fr fp fl ff ++ oW o o2 cJ cD f1 f2) sa)) (va_Qi (fun r (_ : Unit) => r = nI 1) (fun _ t => va_P D cls2 (cW q cI cD a0 rC fi fo fw fe ft fr fp fl ff ++ oW o o2 cJ cD f1 f2) t.heap) (fun _ => False)) 1 6 (fun _ => False) := by
  refine met_introW (cc := cL_iterate) (maxL := 4) (ret := some .int) (hh := [(0, 9, 12, 13)]) (own := RL) (by decide) rfl rfl (Nat.le_of_ble_eq_true rfl) ?_
  intro pp ee ss mm args below meth cd Q ls hQ S hr hlocks htab hv hB hl
  obtain ⟨hx, hb, hml, hown, hts⟩ := id S
  obtain ⟨⟨hP, hK⟩, hG⟩ := hB
  have hl : lv_has ls 4 [(0, .ref (q 0)), (1, .int y0), (2, .ref o)] := hl
  have hP2 : va_P D cls2 (cW q cI cD a0 rC fi fo fw fe ft fr fp fl ff) ss.heap := hP.sub [0, 1, 2, 3, 4, 5, 6, 7, 8, 9] rfl
  have hK2 : va_K D cls2 (tys2 cI cD) ss := hK.sub [0, 1] rfl
  refine lv_aload_n hx hb dL_iterate_0 rfl (lv_at hl 2 rfl) ?_
  refine lv_iconst (v := nI 0) hx hb dL_iterate_1 (by decide) ?_
  refine lv_aload_n hx hb dL_iterate_2 rfl (lv_at hl 0 rfl) ?_
  refine lv_iload_n hx hb dL_iterate_3 rfl (lv_at hl 1 rfl) ?_
  refine vx_calli (vx_runV (As := [.int y0]) (rest := [.int (nI 0), .ref o]) S hM (cwV 1 hts gL_iterate_X0_iterate rfl hrm.1 hrm.2.1 hdX0_iterate ⟨Nat.succ_le_succ hrm.2.2.1, Nat.le_trans (Nat.add_le_add_left hrm.2.2.2 _) (Nat.le_of_ble_eq_true rfl)⟩) (preX hK2 hP2 hG rfl rfl) rfl rfl hl.1 rfl (lv_room (Nat.le_of_ble_eq_true rfl)) dL_iterate_4 ⟨Nat.le_of_ble_eq_true rfl, Nat.le_of_ble_eq_true rfl⟩) (va_S.rf (A := fun _ => False)) (fun _ _ h => h) (fun _ h => h) (fun _ _ h => h) (fun E ce q9 u t H1 locs1 ht hvm hpx hBX hz hk9 hS1 hcell hcv hcl => ?_) (fun r u t H1 locs1 ht hvm hw _ _ _ _ => absurd hw id)
  replace hBX : E = eA := hBX
  subst hBX
  have hP1 : va_P D cls2 (cW q cI cD a0 rC fi fo fw fe ft fr fp fl ff ++ oW o o2 cJ cD f1 f2) H1 := fun k x hk => (hP k x hk).kept (hk9 _ (hP k x hk).lt (fun h => h))
  refine vx_catch (own := RL) (name := eA) (E := eA) hown [] ⟨0, 9, 12, 13⟩ [] htab (fun z hz => absurd hz List.not_mem_nil) (by decide) (by decide) (hts (.classLink RL 13 eA) (by decide +kernel)) (xW_use hG.2.2.1 (.castable eA eA) (by decide +kernel)) hcell hcv hcl ?_
  refine lv_astore_n (lv' := [(3, .ref q9), (0, .ref (q 0)), (1, .int y0), (2, .ref o)]) hx hb dL_iterate_12 rfl hl (by decide) rfl (fun ls hl => ?_)
  refine lv_iconst (v := nI 1) hx hb dL_iterate_13 (by decide) ?_
  subst hQ
  exact W.iret hx hb hr (fun t ht hWm => ⟨⟨_, (), rfl, rfl, (show va_P D cls2 _ t.heap from by rw [ht]; exact hP1)⟩, hS1.F ht⟩) hS1.2.2 dL_iterate_14
abbrev rL_fit : Room := { frames := 5, cells := 0, slots := 0, locals := 117 }
theorem hdL_fit : yL_fit.cls ≠ "java/lang/invoke/MethodHandle" ∧ yL_fit.cls ≠ "java/lang/invoke/VarHandle" ∧ (parseMethodDescriptor yL_fit.desc).map (fun d => d.parameters.length) = some 4 := by decide +kernel
set_option maxHeartbeats 4000000 in
set_option maxRecDepth 100000 in
theorem k_L_fit {l : Launch} {D : va_G} {q : Nat → Nat} {o o2 : Nat} {cI cD cJ : ClassId} {a0 rC : Int32} {fi fo fw : Nat → Int32} {fe : Nat → UInt64} {ft fr fp fl : Nat → Int32} {ff : Nat → UInt64} {f1 : Nat → Int64} {f2 : Nat → UInt64} {T : Type} {post : Int32 → T → Prop} {wd : T → va_W} {y0 y1 : Int32} (hM : Met l yX0_fit wsX0_fit rX0_fit (va_Pc [.ref (q 0), .int y0, .int y1] (wPre D (tys2 cI cD) (cW q cI cD a0 rC fi fo fw fe ft fr fp fl ff))) (va_Qi post (fun u t => va_P D cls2 (wd u) t.heap) (qA q)) 0 0 (qA q)) (hwd : ∀ u, (wd u).map (fun x => x.1) = [q 0, q 1, q 2, q 3, q 4, q 5, q 6, q 7, q 8, q 9]) (hd : d12 q o o2) : Met l yL_fit wsL_fit rL_fit (va_Pc [.ref (q 0), .int y0, .int y1, .ref o] (wPre D (tys3 cI cD cJ) (cW q cI cD a0 rC fi fo fw fe ft fr fp fl ff ++ oW o o2 cJ cD f1 f2))) (va_Qi (fun r (u : Int32 × T) => r = nI 0 ∧ post u.1 u.2) (fun u t => va_P D cls2 (wd u.2 ++ oW o o2 cJ cD (vp_updL f1 0 (Int32.toInt64 u.1)) f2) t.heap) (A12 q o o2)) 0 0 (A12 q o o2) := by
  refine met_introW (cc := cL_fit) (maxL := 5) (ret := some .int) (hh := [(0, 10, 13, 13)]) (own := RL) (by decide) rfl rfl (Nat.le_of_ble_eq_true rfl) ?_
  intro pp ee ss mm args below meth cd Q ls hQ S hr hlocks htab hv hB hl
  obtain ⟨hx, hb, hml, hown, hts⟩ := id S
  obtain ⟨hP, hK⟩ := hB
  have hl : lv_has ls 5 [(0, .ref (q 0)), (1, .int y0), (2, .int y1), (3, .ref o)] := hl
  have hP2 : va_P D cls2 (cW q cI cD a0 rC fi fo fw fe ft fr fp fl ff) ss.heap := hP.sub [0, 1, 2, 3, 4, 5, 6, 7, 8, 9] rfl
  have hK2 : va_K D cls2 (tys2 cI cD) ss := hK.sub [0, 1] rfl
  refine lv_aload_n hx hb dL_fit_0 rfl (lv_at hl 3 rfl) ?_
  refine lv_iconst (v := nI 0) hx hb dL_fit_1 (by decide) ?_
  refine lv_aload_n hx hb dL_fit_2 rfl (lv_at hl 0 rfl) ?_
  refine lv_iload_n hx hb dL_fit_3 rfl (lv_at hl 1 rfl) ?_
  refine lv_iload_n hx hb dL_fit_4 rfl (lv_at hl 2 rfl) ?_
  refine va_calli (va_runV (As := [.int y0, .int y1]) (rest := [.int (nI 0), .ref o]) S hM (cwV 2 hts gL_fit_X0_fit rfl rfl rfl hdX0_fit ⟨Nat.le_of_ble_eq_true rfl, Nat.le_of_ble_eq_true rfl⟩) (preV hK2 hP2 rfl rfl) rfl rfl hl.1 rfl (lv_room (Nat.le_of_ble_eq_true rfl)) dL_fit_5 ⟨Nat.zero_le _, Nat.zero_le _⟩) (va_S.rf (A := A12 q o o2)) (fun _ _ h => Or.inl h) (fun _ h => Or.inl h) (fun r u t H locs ht hvm hw hB hz1 hk1 hS => ?_)
  replace hB : va_P D cls2 (wd u) t.heap := hB
  rw [ht] at hB
  have hP : va_P D cls2 (wd u ++ oW o o2 cJ cD f1 f2) H := glue (w := cW q cI cD a0 rC fi fo fw fe ft fr fp fl ff ++ oW o o2 cJ cD f1 f2) (w1 := cW q cI cD a0 rC fi fo fw fe ft fr fp fl ff) (w1' := wd u) (w2 := oW o o2 cJ cD f1 f2) hP (D12_of hd rfl) [0, 1, 2, 3, 4, 5, 6, 7, 8, 9] [10, 11] rfl rfl (by decide) (qA_in rfl) hk1 hB
  refine lv_i2l hx hb dL_fit_8 rfl ?_
  refine o_last (w := wd u) hx hb hK hP (hwd u) hd hS dL_fit_9 (fun H locs hP hS => ?_)
  refine lv_goto (tgt := 17) hx hb dL_fit_10 (by decide) ?_
  refine lv_iconst (v := nI 0) hx hb dL_fit_17 (by decide) ?_
  subst hQ
  exact W.iret hx hb hr (fun t ht hWm => ⟨⟨_, (r, u), rfl, ⟨rfl, hw⟩, (show va_P D cls2 _ t.heap from by rw [ht]; exact hP)⟩, hS.F ht⟩) hS.2.2 dL_fit_18
abbrev rz_L_fit1 : Room := { frames := 8, cells := 1, slots := 6, locals := 137 }
set_option maxHeartbeats 4000000 in
set_option maxRecDepth 100000 in
theorem z_L_fit1 {l : Launch} {sa : Nat → Nat} {D : va_G} {q : Nat → Nat} {o o2 : Nat} {cI cD cJ : ClassId} {a0 rC : Int32} {fi fo fw : Nat → Int32} {fe : Nat → UInt64} {ft fr fp fl : Nat → Int32} {ff : Nat → UInt64} {f1 : Nat → Int64} {f2 : Nat → UInt64} {y0 y1 : Int32} {rm : Room} (hrm : rm.cells = 1 ∧ rm.slots = 6 ∧ rm.frames ≤ 7 ∧ rm.locals ≤ 112) (hM : vx_Met l yX0_fit wsX0_fit rm (va_Pc [.ref (q 0), .int y0, .int y1] (xPre D (tys2 cI cD) (cW q cI cD a0 rC fi fo fw fe ft fr fp fl ff) sa)) (va_Qi (fun _ (_ : Unit) => False) (fun _ _ => True) (fun _ => False)) (xX eA) 1 6 (fun _ => False)) : Met l yL_fit wsL_fit rz_L_fit1 (va_Pc [.ref (q 0), .int y0, .int y1, .ref o] (xPre D (tys3 cI cD cJ) (cW q cI cD a0 rC fi fo fw fe ft fr fp fl ff ++ oW o o2 cJ cD f1 f2) sa)) (va_Qi (fun r (_ : Unit) => r = nI 1) (fun _ t => va_P D cls2 (cW q cI cD a0 rC fi fo fw fe ft fr fp fl ff ++ oW o o2 cJ cD f1 f2) t.heap) (fun _ => False)) 1 6 (fun _ => False) := by
  refine met_introW (cc := cL_fit) (maxL := 5) (ret := some .int) (hh := [(0, 10, 13, 13)]) (own := RL) (by decide) rfl rfl (Nat.le_of_ble_eq_true rfl) ?_
  intro pp ee ss mm args below meth cd Q ls hQ S hr hlocks htab hv hB hl
  obtain ⟨hx, hb, hml, hown, hts⟩ := id S
  obtain ⟨⟨hP, hK⟩, hG⟩ := hB
  have hl : lv_has ls 5 [(0, .ref (q 0)), (1, .int y0), (2, .int y1), (3, .ref o)] := hl
  have hP2 : va_P D cls2 (cW q cI cD a0 rC fi fo fw fe ft fr fp fl ff) ss.heap := hP.sub [0, 1, 2, 3, 4, 5, 6, 7, 8, 9] rfl
  have hK2 : va_K D cls2 (tys2 cI cD) ss := hK.sub [0, 1] rfl
  refine lv_aload_n hx hb dL_fit_0 rfl (lv_at hl 3 rfl) ?_
  refine lv_iconst (v := nI 0) hx hb dL_fit_1 (by decide) ?_
  refine lv_aload_n hx hb dL_fit_2 rfl (lv_at hl 0 rfl) ?_
  refine lv_iload_n hx hb dL_fit_3 rfl (lv_at hl 1 rfl) ?_
  refine lv_iload_n hx hb dL_fit_4 rfl (lv_at hl 2 rfl) ?_
  refine vx_calli (vx_runV (As := [.int y0, .int y1]) (rest := [.int (nI 0), .ref o]) S hM (cwV 2 hts gL_fit_X0_fit rfl hrm.1 hrm.2.1 hdX0_fit ⟨Nat.succ_le_succ hrm.2.2.1, Nat.le_trans (Nat.add_le_add_left hrm.2.2.2 _) (Nat.le_of_ble_eq_true rfl)⟩) (preX hK2 hP2 hG rfl rfl) rfl rfl hl.1 rfl (lv_room (Nat.le_of_ble_eq_true rfl)) dL_fit_5 ⟨Nat.le_of_ble_eq_true rfl, Nat.le_of_ble_eq_true rfl⟩) (va_S.rf (A := fun _ => False)) (fun _ _ h => h) (fun _ h => h) (fun _ _ h => h) (fun E ce q9 u t H1 locs1 ht hvm hpx hBX hz hk9 hS1 hcell hcv hcl => ?_) (fun r u t H1 locs1 ht hvm hw _ _ _ _ => absurd hw id)
  replace hBX : E = eA := hBX
  subst hBX
  have hP1 : va_P D cls2 (cW q cI cD a0 rC fi fo fw fe ft fr fp fl ff ++ oW o o2 cJ cD f1 f2) H1 := fun k x hk => (hP k x hk).kept (hk9 _ (hP k x hk).lt (fun h => h))
  refine vx_catch (own := RL) (name := eA) (E := eA) hown [] ⟨0, 10, 13, 13⟩ [] htab (fun z hz => absurd hz List.not_mem_nil) (by decide) (by decide) (hts (.classLink RL 13 eA) (by decide +kernel)) (xW_use hG.2.2.1 (.castable eA eA) (by decide +kernel)) hcell hcv hcl ?_
  refine lv_astore (lv' := [(4, .ref q9), (0, .ref (q 0)), (1, .int y0), (2, .int y1), (3, .ref o)]) hx hb dL_fit_13 hl (by decide) rfl (fun ls hl => ?_)
  refine lv_iconst (v := nI 1) hx hb dL_fit_15 (by decide) ?_
  subst hQ
  exact W.iret hx hb hr (fun t ht hWm => ⟨⟨_, (), rfl, rfl, (show va_P D cls2 _ t.heap from by rw [ht]; exact hP1)⟩, hS1.F ht⟩) hS1.2.2 dL_fit_16
abbrev rL_estimate : Room := { frames := 2, cells := 0, slots := 0, locals := 43 }
theorem hdL_estimate : yL_estimate.cls ≠ "java/lang/invoke/MethodHandle" ∧ yL_estimate.cls ≠ "java/lang/invoke/VarHandle" ∧ (parseMethodDescriptor yL_estimate.desc).map (fun d => d.parameters.length) = some 4 := by decide +kernel
set_option maxHeartbeats 4000000 in
set_option maxRecDepth 100000 in
theorem k_L_estimate {l : Launch} {D : va_G} {q : Nat → Nat} {o o2 : Nat} {cI cD cJ : ClassId} {a0 rC : Int32} {fi fo fw : Nat → Int32} {fe : Nat → UInt64} {ft fr fp fl : Nat → Int32} {ff : Nat → UInt64} {f1 : Nat → Int64} {f2 : Nat → UInt64} {post : UInt64 → Prop} {y0 y1 : Int32} (hM : Met l yX0_estimate wsX0_estimate rX0_estimate (va_Pc [.ref (q 0), .int y0, .int y1] (wPre D (tys2 cI cD) (cW q cI cD a0 rC fi fo fw fe ft fr fp fl ff))) (vp_Sd post) 0 0 (fun _ => False)) (hd : d12 q o o2) : Met l yL_estimate wsL_estimate rL_estimate (va_Pc [.ref (q 0), .int y0, .int y1, .ref o2] (wPre D (tys3 cI cD cJ) (cW q cI cD a0 rC fi fo fw fe ft fr fp fl ff ++ oW o o2 cJ cD f1 f2))) (va_Qi (fun r (u : UInt64) => r = nI 0 ∧ post u) (fun u t => va_P D cls2 (cW q cI cD a0 rC fi fo fw fe ft fr fp fl ff ++ oW o o2 cJ cD f1 (vf_upd f2 0 u)) t.heap) (A12 q o o2)) 0 0 (A12 q o o2) := by
  refine met_introW (cc := cL_estimate) (maxL := 5) (ret := some .int) (hh := [(0, 9, 12, 19)]) (own := RL) (by decide) rfl rfl (Nat.le_of_ble_eq_true rfl) ?_
  intro pp ee ss mm args below meth cd Q ls hQ S hr hlocks htab hv hB hl
  obtain ⟨hx, hb, hml, hown, hts⟩ := id S
  obtain ⟨hP, hK⟩ := hB
  have hl : lv_has ls 5 [(0, .ref (q 0)), (1, .int y0), (2, .int y1), (3, .ref o2)] := hl
  have hP2 : va_P D cls2 (cW q cI cD a0 rC fi fo fw fe ft fr fp fl ff) ss.heap := hP.sub [0, 1, 2, 3, 4, 5, 6, 7, 8, 9] rfl
  have hK2 : va_K D cls2 (tys2 cI cD) ss := hK.sub [0, 1] rfl
  refine lv_aload_n hx hb dL_estimate_0 rfl (lv_at hl 3 rfl) ?_
  refine lv_iconst (v := nI 0) hx hb dL_estimate_1 (by decide) ?_
  refine lv_aload_n hx hb dL_estimate_2 rfl (lv_at hl 0 rfl) ?_
  refine lv_iload_n hx hb dL_estimate_3 rfl (lv_at hl 1 rfl) ?_
  refine lv_iload_n hx hb dL_estimate_4 rfl (lv_at hl 2 rfl) ?_
  refine vp_callSd (W.runV (As := [.int y0, .int y1]) (rest := [.int (nI 0), .ref o2]) S hM (cwV 2 hts gL_estimate_X0_estimate rfl rfl rfl hdX0_estimate ⟨Nat.le_of_ble_eq_true rfl, Nat.le_of_ble_eq_true rfl⟩) (preV hK2 hP2 rfl rfl) rfl rfl hl.1 rfl (lv_room (Nat.le_of_ble_eq_true rfl)) dL_estimate_5 ⟨Nat.zero_le _, Nat.zero_le _⟩) (fun r er => ?_)
  have hS : va_S (A12 q o o2) ss.heap ss.heap [] := va_S.rf
  refine o_dast (w := cW q cI cD a0 rC fi fo fw fe ft fr fp fl ff) hx hb hK hP rfl hd hS dL_estimate_8 (fun H locs hP hS => ?_)
  refine lv_goto (tgt := 16) hx hb dL_estimate_9 (by decide) ?_
  refine lv_iconst (v := nI 0) hx hb dL_estimate_16 (by decide) ?_
  subst hQ
  exact W.iret hx hb hr (fun t ht hWm => ⟨⟨_, r, rfl, ⟨rfl, er⟩, (show va_P D cls2 _ t.heap from by rw [ht]; exact hP)⟩, hS.F ht⟩) hS.2.2 dL_estimate_17
abbrev rz_L_estimate1 : Room := { frames := 8, cells := 1, slots := 6, locals := 133 }
set_option maxHeartbeats 4000000 in
set_option maxRecDepth 100000 in
theorem z_L_estimate1 {l : Launch} {sa : Nat → Nat} {D : va_G} {q : Nat → Nat} {o o2 : Nat} {cI cD cJ : ClassId} {a0 rC : Int32} {fi fo fw : Nat → Int32} {fe : Nat → UInt64} {ft fr fp fl : Nat → Int32} {ff : Nat → UInt64} {f1 : Nat → Int64} {f2 : Nat → UInt64} {y0 y1 : Int32} {rm : Room} (hrm : rm.cells = 1 ∧ rm.slots = 6 ∧ rm.frames ≤ 7 ∧ rm.locals ≤ 111) (hM : vx_Met l yX0_estimate wsX0_estimate rm (va_Pc [.ref (q 0), .int y0, .int y1] (xPre D (tys2 cI cD) (cW q cI cD a0 rC fi fo fw fe ft fr fp fl ff) sa)) (va_Qd (fun _ (_ : Unit) => False) (fun _ _ => True) (fun _ => False)) (xX eI) 1 6 (fun _ => False)) : Met l yL_estimate wsL_estimate rz_L_estimate1 (va_Pc [.ref (q 0), .int y0, .int y1, .ref o2] (xPre D (tys3 cI cD cJ) (cW q cI cD a0 rC fi fo fw fe ft fr fp fl ff ++ oW o o2 cJ cD f1 f2) sa)) (va_Qi (fun r (_ : Unit) => r = nI 1) (fun _ t => va_P D cls2 (cW q cI cD a0 rC fi fo fw fe ft fr fp fl ff ++ oW o o2 cJ cD f1 f2) t.heap) (fun _ => False)) 1 6 (fun _ => False) := by
  refine met_introW (cc := cL_estimate) (maxL := 5) (ret := some .int) (hh := [(0, 9, 12, 19)]) (own := RL) (by decide) rfl rfl (Nat.le_of_ble_eq_true rfl) ?_
  intro pp ee ss mm args below meth cd Q ls hQ S hr hlocks htab hv hB hl
  obtain ⟨hx, hb, hml, hown, hts⟩ := id S
  obtain ⟨⟨hP, hK⟩, hG⟩ := hB
  have hl : lv_has ls 5 [(0, .ref (q 0)), (1, .int y0), (2, .int y1), (3, .ref o2)] := hl
  have hP2 : va_P D cls2 (cW q cI cD a0 rC fi fo fw fe ft fr fp fl ff) ss.heap := hP.sub [0, 1, 2, 3, 4, 5, 6, 7, 8, 9] rfl
  have hK2 : va_K D cls2 (tys2 cI cD) ss := hK.sub [0, 1] rfl
  refine lv_aload_n hx hb dL_estimate_0 rfl (lv_at hl 3 rfl) ?_
  refine lv_iconst (v := nI 0) hx hb dL_estimate_1 (by decide) ?_
  refine lv_aload_n hx hb dL_estimate_2 rfl (lv_at hl 0 rfl) ?_
  refine lv_iload_n hx hb dL_estimate_3 rfl (lv_at hl 1 rfl) ?_
  refine lv_iload_n hx hb dL_estimate_4 rfl (lv_at hl 2 rfl) ?_
  refine vx_calld (vx_runV (As := [.int y0, .int y1]) (rest := [.int (nI 0), .ref o2]) S hM (cwV 2 hts gL_estimate_X0_estimate rfl hrm.1 hrm.2.1 hdX0_estimate ⟨Nat.succ_le_succ hrm.2.2.1, Nat.le_trans (Nat.add_le_add_left hrm.2.2.2 _) (Nat.le_of_ble_eq_true rfl)⟩) (preX hK2 hP2 hG rfl rfl) rfl rfl hl.1 rfl (lv_room (Nat.le_of_ble_eq_true rfl)) dL_estimate_5 ⟨Nat.le_of_ble_eq_true rfl, Nat.le_of_ble_eq_true rfl⟩) (va_S.rf (A := fun _ => False)) (fun _ _ h => h) (fun _ h => h) (fun _ _ h => h) (fun E ce q9 u t H1 locs1 ht hvm hpx hBX hz hk9 hS1 hcell hcv hcl => ?_) (fun r u t H1 locs1 ht hvm hw _ _ _ _ => absurd hw id)
  replace hBX : E = eI := hBX
  subst hBX
  have hP1 : va_P D cls2 (cW q cI cD a0 rC fi fo fw fe ft fr fp fl ff ++ oW o o2 cJ cD f1 f2) H1 := fun k x hk => (hP k x hk).kept (hk9 _ (hP k x hk).lt (fun h => h))
  refine vx_catch (own := RL) (name := eI) (E := eI) hown [] ⟨0, 9, 12, 19⟩ [] htab (fun z hz => absurd hz List.not_mem_nil) (by decide) (by decide) (hts (.classLink RL 19 eI) (by decide +kernel)) (xW_use hG.2.2.1 (.castable eI eI) (by decide +kernel)) hcell hcv hcl ?_
  refine lv_astore (lv' := [(4, .ref q9), (0, .ref (q 0)), (1, .int y0), (2, .int y1), (3, .ref o2)]) hx hb dL_estimate_12 hl (by decide) rfl (fun ls hl => ?_)
  refine lv_iconst (v := nI 1) hx hb dL_estimate_14 (by decide) ?_
  subst hQ
  exact W.iret hx hb hr (fun t ht hWm => ⟨⟨_, (), rfl, rfl, (show va_P D cls2 _ t.heap from by rw [ht]; exact hP1)⟩, hS1.F ht⟩) hS1.2.2 dL_estimate_15
abbrev rL_sum : Room := { frames := 3, cells := 0, slots := 0, locals := 67 }
theorem hdL_sum : yL_sum.cls ≠ "java/lang/invoke/MethodHandle" ∧ yL_sum.cls ≠ "java/lang/invoke/VarHandle" ∧ (parseMethodDescriptor yL_sum.desc).map (fun d => d.parameters.length) = some 4 := by decide +kernel
set_option maxHeartbeats 4000000 in
set_option maxRecDepth 100000 in
theorem k_L_sum {l : Launch} {D : va_G} {q : Nat → Nat} {o o2 : Nat} {cI cD cJ : ClassId} {a0 rC : Int32} {fi fo fw : Nat → Int32} {fe : Nat → UInt64} {ft fr fp fl : Nat → Int32} {ff : Nat → UInt64} {f1 : Nat → Int64} {f2 : Nat → UInt64} {post : UInt64 → Prop} {y0 y1 : Int32} (hM : Met l yX0_sum wsX0_sum rX0_sum (va_Pc [.ref (q 0), .int y0, .int y1] (wPre D (tys2 cI cD) (cW q cI cD a0 rC fi fo fw fe ft fr fp fl ff))) (vp_Sd post) 0 0 (fun _ => False)) (hd : d12 q o o2) : Met l yL_sum wsL_sum rL_sum (va_Pc [.ref (q 0), .int y0, .int y1, .ref o2] (wPre D (tys3 cI cD cJ) (cW q cI cD a0 rC fi fo fw fe ft fr fp fl ff ++ oW o o2 cJ cD f1 f2))) (va_Qi (fun r (u : UInt64) => r = nI 0 ∧ post u) (fun u t => va_P D cls2 (cW q cI cD a0 rC fi fo fw fe ft fr fp fl ff ++ oW o o2 cJ cD f1 (vf_upd f2 0 u)) t.heap) (A12 q o o2)) 0 0 (A12 q o o2) := by
  refine met_introW (cc := cL_sum) (maxL := 5) (ret := some .int) (hh := [(0, 9, 12, 19)]) (own := RL) (by decide) rfl rfl (Nat.le_of_ble_eq_true rfl) ?_
  intro pp ee ss mm args below meth cd Q ls hQ S hr hlocks htab hv hB hl
  obtain ⟨hx, hb, hml, hown, hts⟩ := id S
  obtain ⟨hP, hK⟩ := hB
  have hl : lv_has ls 5 [(0, .ref (q 0)), (1, .int y0), (2, .int y1), (3, .ref o2)] := hl
  have hP2 : va_P D cls2 (cW q cI cD a0 rC fi fo fw fe ft fr fp fl ff) ss.heap := hP.sub [0, 1, 2, 3, 4, 5, 6, 7, 8, 9] rfl
  have hK2 : va_K D cls2 (tys2 cI cD) ss := hK.sub [0, 1] rfl
  refine lv_aload_n hx hb dL_sum_0 rfl (lv_at hl 3 rfl) ?_
  refine lv_iconst (v := nI 0) hx hb dL_sum_1 (by decide) ?_
  refine lv_aload_n hx hb dL_sum_2 rfl (lv_at hl 0 rfl) ?_
  refine lv_iload_n hx hb dL_sum_3 rfl (lv_at hl 1 rfl) ?_
  refine lv_iload_n hx hb dL_sum_4 rfl (lv_at hl 2 rfl) ?_
  refine vp_callSd (W.runV (As := [.int y0, .int y1]) (rest := [.int (nI 0), .ref o2]) S hM (cwV 2 hts gL_sum_X0_sum rfl rfl rfl hdX0_sum ⟨Nat.le_of_ble_eq_true rfl, Nat.le_of_ble_eq_true rfl⟩) (preV hK2 hP2 rfl rfl) rfl rfl hl.1 rfl (lv_room (Nat.le_of_ble_eq_true rfl)) dL_sum_5 ⟨Nat.zero_le _, Nat.zero_le _⟩) (fun r er => ?_)
  have hS : va_S (A12 q o o2) ss.heap ss.heap [] := va_S.rf
  refine o_dast (w := cW q cI cD a0 rC fi fo fw fe ft fr fp fl ff) hx hb hK hP rfl hd hS dL_sum_8 (fun H locs hP hS => ?_)
  refine lv_goto (tgt := 16) hx hb dL_sum_9 (by decide) ?_
  refine lv_iconst (v := nI 0) hx hb dL_sum_16 (by decide) ?_
  subst hQ
  exact W.iret hx hb hr (fun t ht hWm => ⟨⟨_, r, rfl, ⟨rfl, er⟩, (show va_P D cls2 _ t.heap from by rw [ht]; exact hP)⟩, hS.F ht⟩) hS.2.2 dL_sum_17
abbrev rz_L_sum1 : Room := { frames := 8, cells := 1, slots := 6, locals := 133 }
set_option maxHeartbeats 4000000 in
set_option maxRecDepth 100000 in
theorem z_L_sum1 {l : Launch} {sa : Nat → Nat} {D : va_G} {q : Nat → Nat} {o o2 : Nat} {cI cD cJ : ClassId} {a0 rC : Int32} {fi fo fw : Nat → Int32} {fe : Nat → UInt64} {ft fr fp fl : Nat → Int32} {ff : Nat → UInt64} {f1 : Nat → Int64} {f2 : Nat → UInt64} {y0 y1 : Int32} {rm : Room} (hrm : rm.cells = 1 ∧ rm.slots = 6 ∧ rm.frames ≤ 7 ∧ rm.locals ≤ 111) (hM : vx_Met l yX0_sum wsX0_sum rm (va_Pc [.ref (q 0), .int y0, .int y1] (xPre D (tys2 cI cD) (cW q cI cD a0 rC fi fo fw fe ft fr fp fl ff) sa)) (va_Qd (fun _ (_ : Unit) => False) (fun _ _ => True) (fun _ => False)) (xX eI) 1 6 (fun _ => False)) : Met l yL_sum wsL_sum rz_L_sum1 (va_Pc [.ref (q 0), .int y0, .int y1, .ref o2] (xPre D (tys3 cI cD cJ) (cW q cI cD a0 rC fi fo fw fe ft fr fp fl ff ++ oW o o2 cJ cD f1 f2) sa)) (va_Qi (fun r (_ : Unit) => r = nI 1) (fun _ t => va_P D cls2 (cW q cI cD a0 rC fi fo fw fe ft fr fp fl ff ++ oW o o2 cJ cD f1 f2) t.heap) (fun _ => False)) 1 6 (fun _ => False) := by
  refine met_introW (cc := cL_sum) (maxL := 5) (ret := some .int) (hh := [(0, 9, 12, 19)]) (own := RL) (by decide) rfl rfl (Nat.le_of_ble_eq_true rfl) ?_
  intro pp ee ss mm args below meth cd Q ls hQ S hr hlocks htab hv hB hl
  obtain ⟨hx, hb, hml, hown, hts⟩ := id S
  obtain ⟨⟨hP, hK⟩, hG⟩ := hB
  have hl : lv_has ls 5 [(0, .ref (q 0)), (1, .int y0), (2, .int y1), (3, .ref o2)] := hl
  have hP2 : va_P D cls2 (cW q cI cD a0 rC fi fo fw fe ft fr fp fl ff) ss.heap := hP.sub [0, 1, 2, 3, 4, 5, 6, 7, 8, 9] rfl
  have hK2 : va_K D cls2 (tys2 cI cD) ss := hK.sub [0, 1] rfl
  refine lv_aload_n hx hb dL_sum_0 rfl (lv_at hl 3 rfl) ?_
  refine lv_iconst (v := nI 0) hx hb dL_sum_1 (by decide) ?_
  refine lv_aload_n hx hb dL_sum_2 rfl (lv_at hl 0 rfl) ?_
  refine lv_iload_n hx hb dL_sum_3 rfl (lv_at hl 1 rfl) ?_
  refine lv_iload_n hx hb dL_sum_4 rfl (lv_at hl 2 rfl) ?_
  refine vx_calld (vx_runV (As := [.int y0, .int y1]) (rest := [.int (nI 0), .ref o2]) S hM (cwV 2 hts gL_sum_X0_sum rfl hrm.1 hrm.2.1 hdX0_sum ⟨Nat.succ_le_succ hrm.2.2.1, Nat.le_trans (Nat.add_le_add_left hrm.2.2.2 _) (Nat.le_of_ble_eq_true rfl)⟩) (preX hK2 hP2 hG rfl rfl) rfl rfl hl.1 rfl (lv_room (Nat.le_of_ble_eq_true rfl)) dL_sum_5 ⟨Nat.le_of_ble_eq_true rfl, Nat.le_of_ble_eq_true rfl⟩) (va_S.rf (A := fun _ => False)) (fun _ _ h => h) (fun _ h => h) (fun _ _ h => h) (fun E ce q9 u t H1 locs1 ht hvm hpx hBX hz hk9 hS1 hcell hcv hcl => ?_) (fun r u t H1 locs1 ht hvm hw _ _ _ _ => absurd hw id)
  replace hBX : E = eI := hBX
  subst hBX
  have hP1 : va_P D cls2 (cW q cI cD a0 rC fi fo fw fe ft fr fp fl ff ++ oW o o2 cJ cD f1 f2) H1 := fun k x hk => (hP k x hk).kept (hk9 _ (hP k x hk).lt (fun h => h))
  refine vx_catch (own := RL) (name := eI) (E := eI) hown [] ⟨0, 9, 12, 19⟩ [] htab (fun z hz => absurd hz List.not_mem_nil) (by decide) (by decide) (hts (.classLink RL 19 eI) (by decide +kernel)) (xW_use hG.2.2.1 (.castable eI eI) (by decide +kernel)) hcell hcv hcl ?_
  refine lv_astore (lv' := [(4, .ref q9), (0, .ref (q 0)), (1, .int y0), (2, .int y1), (3, .ref o2)]) hx hb dL_sum_12 hl (by decide) rfl (fun ls hl => ?_)
  refine lv_iconst (v := nI 1) hx hb dL_sum_14 (by decide) ?_
  subst hQ
  exact W.iret hx hb hr (fun t ht hWm => ⟨⟨_, (), rfl, rfl, (show va_P D cls2 _ t.heap from by rw [ht]; exact hP1)⟩, hS1.F ht⟩) hS1.2.2 dL_sum_15
abbrev rL_share : Room := { frames := 3, cells := 0, slots := 0, locals := 69 }
theorem hdL_share : yL_share.cls ≠ "java/lang/invoke/MethodHandle" ∧ yL_share.cls ≠ "java/lang/invoke/VarHandle" ∧ (parseMethodDescriptor yL_share.desc).map (fun d => d.parameters.length) = some 4 := by decide +kernel
set_option maxHeartbeats 4000000 in
set_option maxRecDepth 100000 in
theorem k_L_share {l : Launch} {D : va_G} {q : Nat → Nat} {o o2 : Nat} {cI cD cJ : ClassId} {a0 rC : Int32} {fi fo fw : Nat → Int32} {fe : Nat → UInt64} {ft fr fp fl : Nat → Int32} {ff : Nat → UInt64} {f1 : Nat → Int64} {f2 : Nat → UInt64} {post : UInt64 → Prop} {y0 y1 : Int32} (hM : Met l yX0_share wsX0_share rX0_share (va_Pc [.ref (q 0), .int y0, .int y1] (wPre D (tys2 cI cD) (cW q cI cD a0 rC fi fo fw fe ft fr fp fl ff))) (vp_Sd post) 0 0 (fun _ => False)) (hd : d12 q o o2) : Met l yL_share wsL_share rL_share (va_Pc [.ref (q 0), .int y0, .int y1, .ref o2] (wPre D (tys3 cI cD cJ) (cW q cI cD a0 rC fi fo fw fe ft fr fp fl ff ++ oW o o2 cJ cD f1 f2))) (va_Qi (fun r (u : UInt64) => r = nI 0 ∧ post u) (fun u t => va_P D cls2 (cW q cI cD a0 rC fi fo fw fe ft fr fp fl ff ++ oW o o2 cJ cD f1 (vf_upd f2 0 u)) t.heap) (A12 q o o2)) 0 0 (A12 q o o2) := by
  refine met_introW (cc := cL_share) (maxL := 5) (ret := some .int) (hh := [(0, 9, 12, 19)]) (own := RL) (by decide) rfl rfl (Nat.le_of_ble_eq_true rfl) ?_
  intro pp ee ss mm args below meth cd Q ls hQ S hr hlocks htab hv hB hl
  obtain ⟨hx, hb, hml, hown, hts⟩ := id S
  obtain ⟨hP, hK⟩ := hB
  have hl : lv_has ls 5 [(0, .ref (q 0)), (1, .int y0), (2, .int y1), (3, .ref o2)] := hl
  have hP2 : va_P D cls2 (cW q cI cD a0 rC fi fo fw fe ft fr fp fl ff) ss.heap := hP.sub [0, 1, 2, 3, 4, 5, 6, 7, 8, 9] rfl
  have hK2 : va_K D cls2 (tys2 cI cD) ss := hK.sub [0, 1] rfl
  refine lv_aload_n hx hb dL_share_0 rfl (lv_at hl 3 rfl) ?_
  refine lv_iconst (v := nI 0) hx hb dL_share_1 (by decide) ?_
  refine lv_aload_n hx hb dL_share_2 rfl (lv_at hl 0 rfl) ?_
  refine lv_iload_n hx hb dL_share_3 rfl (lv_at hl 1 rfl) ?_
  refine lv_iload_n hx hb dL_share_4 rfl (lv_at hl 2 rfl) ?_
  refine vp_callSd (W.runV (As := [.int y0, .int y1]) (rest := [.int (nI 0), .ref o2]) S hM (cwV 2 hts gL_share_X0_share rfl rfl rfl hdX0_share ⟨Nat.le_of_ble_eq_true rfl, Nat.le_of_ble_eq_true rfl⟩) (preV hK2 hP2 rfl rfl) rfl rfl hl.1 rfl (lv_room (Nat.le_of_ble_eq_true rfl)) dL_share_5 ⟨Nat.zero_le _, Nat.zero_le _⟩) (fun r er => ?_)
  have hS : va_S (A12 q o o2) ss.heap ss.heap [] := va_S.rf
  refine o_dast (w := cW q cI cD a0 rC fi fo fw fe ft fr fp fl ff) hx hb hK hP rfl hd hS dL_share_8 (fun H locs hP hS => ?_)
  refine lv_goto (tgt := 16) hx hb dL_share_9 (by decide) ?_
  refine lv_iconst (v := nI 0) hx hb dL_share_16 (by decide) ?_
  subst hQ
  exact W.iret hx hb hr (fun t ht hWm => ⟨⟨_, r, rfl, ⟨rfl, er⟩, (show va_P D cls2 _ t.heap from by rw [ht]; exact hP)⟩, hS.F ht⟩) hS.2.2 dL_share_17
abbrev rz_L_share1 : Room := { frames := 8, cells := 1, slots := 6, locals := 135 }
set_option maxHeartbeats 4000000 in
set_option maxRecDepth 100000 in
theorem z_L_share1 {l : Launch} {sa : Nat → Nat} {D : va_G} {q : Nat → Nat} {o o2 : Nat} {cI cD cJ : ClassId} {a0 rC : Int32} {fi fo fw : Nat → Int32} {fe : Nat → UInt64} {ft fr fp fl : Nat → Int32} {ff : Nat → UInt64} {f1 : Nat → Int64} {f2 : Nat → UInt64} {y0 y1 : Int32} {rm : Room} (hrm : rm.cells = 1 ∧ rm.slots = 6 ∧ rm.frames ≤ 7 ∧ rm.locals ≤ 111) (hM : vx_Met l yX0_share wsX0_share rm (va_Pc [.ref (q 0), .int y0, .int y1] (xPre D (tys2 cI cD) (cW q cI cD a0 rC fi fo fw fe ft fr fp fl ff) sa)) (va_Qd (fun _ (_ : Unit) => False) (fun _ _ => True) (fun _ => False)) (xX eI) 1 6 (fun _ => False)) : Met l yL_share wsL_share rz_L_share1 (va_Pc [.ref (q 0), .int y0, .int y1, .ref o2] (xPre D (tys3 cI cD cJ) (cW q cI cD a0 rC fi fo fw fe ft fr fp fl ff ++ oW o o2 cJ cD f1 f2) sa)) (va_Qi (fun r (_ : Unit) => r = nI 1) (fun _ t => va_P D cls2 (cW q cI cD a0 rC fi fo fw fe ft fr fp fl ff ++ oW o o2 cJ cD f1 f2) t.heap) (fun _ => False)) 1 6 (fun _ => False) := by
  refine met_introW (cc := cL_share) (maxL := 5) (ret := some .int) (hh := [(0, 9, 12, 19)]) (own := RL) (by decide) rfl rfl (Nat.le_of_ble_eq_true rfl) ?_
  intro pp ee ss mm args below meth cd Q ls hQ S hr hlocks htab hv hB hl
  obtain ⟨hx, hb, hml, hown, hts⟩ := id S
  obtain ⟨⟨hP, hK⟩, hG⟩ := hB
  have hl : lv_has ls 5 [(0, .ref (q 0)), (1, .int y0), (2, .int y1), (3, .ref o2)] := hl
  have hP2 : va_P D cls2 (cW q cI cD a0 rC fi fo fw fe ft fr fp fl ff) ss.heap := hP.sub [0, 1, 2, 3, 4, 5, 6, 7, 8, 9] rfl
  have hK2 : va_K D cls2 (tys2 cI cD) ss := hK.sub [0, 1] rfl
  refine lv_aload_n hx hb dL_share_0 rfl (lv_at hl 3 rfl) ?_
  refine lv_iconst (v := nI 0) hx hb dL_share_1 (by decide) ?_
  refine lv_aload_n hx hb dL_share_2 rfl (lv_at hl 0 rfl) ?_
  refine lv_iload_n hx hb dL_share_3 rfl (lv_at hl 1 rfl) ?_
  refine lv_iload_n hx hb dL_share_4 rfl (lv_at hl 2 rfl) ?_
  refine vx_calld (vx_runV (As := [.int y0, .int y1]) (rest := [.int (nI 0), .ref o2]) S hM (cwV 2 hts gL_share_X0_share rfl hrm.1 hrm.2.1 hdX0_share ⟨Nat.succ_le_succ hrm.2.2.1, Nat.le_trans (Nat.add_le_add_left hrm.2.2.2 _) (Nat.le_of_ble_eq_true rfl)⟩) (preX hK2 hP2 hG rfl rfl) rfl rfl hl.1 rfl (lv_room (Nat.le_of_ble_eq_true rfl)) dL_share_5 ⟨Nat.le_of_ble_eq_true rfl, Nat.le_of_ble_eq_true rfl⟩) (va_S.rf (A := fun _ => False)) (fun _ _ h => h) (fun _ h => h) (fun _ _ h => h) (fun E ce q9 u t H1 locs1 ht hvm hpx hBX hz hk9 hS1 hcell hcv hcl => ?_) (fun r u t H1 locs1 ht hvm hw _ _ _ _ => absurd hw id)
  replace hBX : E = eI := hBX
  subst hBX
  have hP1 : va_P D cls2 (cW q cI cD a0 rC fi fo fw fe ft fr fp fl ff ++ oW o o2 cJ cD f1 f2) H1 := fun k x hk => (hP k x hk).kept (hk9 _ (hP k x hk).lt (fun h => h))
  refine vx_catch (own := RL) (name := eI) (E := eI) hown [] ⟨0, 9, 12, 19⟩ [] htab (fun z hz => absurd hz List.not_mem_nil) (by decide) (by decide) (hts (.classLink RL 19 eI) (by decide +kernel)) (xW_use hG.2.2.1 (.castable eI eI) (by decide +kernel)) hcell hcv hcl ?_
  refine lv_astore (lv' := [(4, .ref q9), (0, .ref (q 0)), (1, .int y0), (2, .int y1), (3, .ref o2)]) hx hb dL_share_12 hl (by decide) rfl (fun ls hl => ?_)
  refine lv_iconst (v := nI 1) hx hb dL_share_14 (by decide) ?_
  subst hQ
  exact W.iret hx hb hr (fun t ht hWm => ⟨⟨_, (), rfl, rfl, (show va_P D cls2 _ t.heap from by rw [ht]; exact hP1)⟩, hS1.F ht⟩) hS1.2.2 dL_share_15
abbrev rL_crossRatio : Room := { frames := 2, cells := 0, slots := 0, locals := 49 }
theorem hdL_crossRatio : yL_crossRatio.cls ≠ "java/lang/invoke/MethodHandle" ∧ yL_crossRatio.cls ≠ "java/lang/invoke/VarHandle" ∧ (parseMethodDescriptor yL_crossRatio.desc).map (fun d => d.parameters.length) = some 6 := by decide +kernel
set_option maxHeartbeats 4000000 in
set_option maxRecDepth 100000 in
theorem k_L_crossRatio {l : Launch} {D : va_G} {q : Nat → Nat} {o o2 : Nat} {cI cD cJ : ClassId} {a0 rC : Int32} {fi fo fw : Nat → Int32} {fe : Nat → UInt64} {ft fr fp fl : Nat → Int32} {ff : Nat → UInt64} {f1 : Nat → Int64} {f2 : Nat → UInt64} {post : UInt64 → Prop} {y0 y1 y2 y3 : Int32} (hM : Met l yX0_crossRatio wsX0_crossRatio rX0_crossRatio (va_Pc [.ref (q 0), .int y0, .int y1, .int y2, .int y3] (wPre D (tys2 cI cD) (cW q cI cD a0 rC fi fo fw fe ft fr fp fl ff))) (vp_Sd post) 0 0 (fun _ => False)) (hd : d12 q o o2) : Met l yL_crossRatio wsL_crossRatio rL_crossRatio (va_Pc [.ref (q 0), .int y0, .int y1, .int y2, .int y3, .ref o2] (wPre D (tys3 cI cD cJ) (cW q cI cD a0 rC fi fo fw fe ft fr fp fl ff ++ oW o o2 cJ cD f1 f2))) (va_Qi (fun r (u : UInt64) => r = nI 0 ∧ post u) (fun u t => va_P D cls2 (cW q cI cD a0 rC fi fo fw fe ft fr fp fl ff ++ oW o o2 cJ cD f1 (vf_upd f2 0 u)) t.heap) (A12 q o o2)) 0 0 (A12 q o o2) := by
  refine met_introW (cc := cL_crossRatio) (maxL := 7) (ret := some .int) (hh := [(0, 13, 16, 19), (0, 13, 20, 57)]) (own := RL) (by decide) rfl rfl (Nat.le_of_ble_eq_true rfl) ?_
  intro pp ee ss mm args below meth cd Q ls hQ S hr hlocks htab hv hB hl
  obtain ⟨hx, hb, hml, hown, hts⟩ := id S
  obtain ⟨hP, hK⟩ := hB
  have hl : lv_has ls 7 [(0, .ref (q 0)), (1, .int y0), (2, .int y1), (3, .int y2), (4, .int y3), (5, .ref o2)] := hl
  have hP2 : va_P D cls2 (cW q cI cD a0 rC fi fo fw fe ft fr fp fl ff) ss.heap := hP.sub [0, 1, 2, 3, 4, 5, 6, 7, 8, 9] rfl
  have hK2 : va_K D cls2 (tys2 cI cD) ss := hK.sub [0, 1] rfl
  refine lv_aload hx hb dL_crossRatio_0 (lv_at hl 5 rfl) ?_
  refine lv_iconst (v := nI 0) hx hb dL_crossRatio_2 (by decide) ?_
  refine lv_aload_n hx hb dL_crossRatio_3 rfl (lv_at hl 0 rfl) ?_
  refine lv_iload_n hx hb dL_crossRatio_4 rfl (lv_at hl 1 rfl) ?_
  refine lv_iload_n hx hb dL_crossRatio_5 rfl (lv_at hl 2 rfl) ?_
  refine lv_iload_n hx hb dL_crossRatio_6 rfl (lv_at hl 3 rfl) ?_
  refine lv_iload hx hb dL_crossRatio_7 (lv_at hl 4 rfl) ?_
  refine vp_callSd (W.runV (As := [.int y0, .int y1, .int y2, .int y3]) (rest := [.int (nI 0), .ref o2]) S hM (cwV 4 hts gL_crossRatio_X0_crossRatio rfl rfl rfl hdX0_crossRatio ⟨Nat.le_of_ble_eq_true rfl, Nat.le_of_ble_eq_true rfl⟩) (preV hK2 hP2 rfl rfl) rfl rfl hl.1 rfl (lv_room (Nat.le_of_ble_eq_true rfl)) dL_crossRatio_9 ⟨Nat.zero_le _, Nat.zero_le _⟩) (fun r er => ?_)
  have hS : va_S (A12 q o o2) ss.heap ss.heap [] := va_S.rf
  refine o_dast (w := cW q cI cD a0 rC fi fo fw fe ft fr fp fl ff) hx hb hK hP rfl hd hS dL_crossRatio_12 (fun H locs hP hS => ?_)
  refine lv_goto (tgt := 24) hx hb dL_crossRatio_13 (by decide) ?_
  refine lv_iconst (v := nI 0) hx hb dL_crossRatio_24 (by decide) ?_
  subst hQ
  exact W.iret hx hb hr (fun t ht hWm => ⟨⟨_, r, rfl, ⟨rfl, er⟩, (show va_P D cls2 _ t.heap from by rw [ht]; exact hP)⟩, hS.F ht⟩) hS.2.2 dL_crossRatio_25
abbrev rz_L_crossRatio1 : Room := { frames := 8, cells := 1, slots := 6, locals := 139 }
set_option maxHeartbeats 4000000 in
set_option maxRecDepth 100000 in
theorem z_L_crossRatio1 {l : Launch} {sa : Nat → Nat} {D : va_G} {q : Nat → Nat} {o o2 : Nat} {cI cD cJ : ClassId} {a0 rC : Int32} {fi fo fw : Nat → Int32} {fe : Nat → UInt64} {ft fr fp fl : Nat → Int32} {ff : Nat → UInt64} {f1 : Nat → Int64} {f2 : Nat → UInt64} {y0 y1 y2 y3 : Int32} {rm : Room} (hrm : rm.cells = 1 ∧ rm.slots = 6 ∧ rm.frames ≤ 7 ∧ rm.locals ≤ 111) (hM : vx_Met l yX0_crossRatio wsX0_crossRatio rm (va_Pc [.ref (q 0), .int y0, .int y1, .int y2, .int y3] (xPre D (tys2 cI cD) (cW q cI cD a0 rC fi fo fw fe ft fr fp fl ff) sa)) (va_Qd (fun _ (_ : Unit) => False) (fun _ _ => True) (fun _ => False)) (xX eI) 1 6 (fun _ => False)) : Met l yL_crossRatio wsL_crossRatio rz_L_crossRatio1 (va_Pc [.ref (q 0), .int y0, .int y1, .int y2, .int y3, .ref o2] (xPre D (tys3 cI cD cJ) (cW q cI cD a0 rC fi fo fw fe ft fr fp fl ff ++ oW o o2 cJ cD f1 f2) sa)) (va_Qi (fun r (_ : Unit) => r = nI 1) (fun _ t => va_P D cls2 (cW q cI cD a0 rC fi fo fw fe ft fr fp fl ff ++ oW o o2 cJ cD f1 f2) t.heap) (fun _ => False)) 1 6 (fun _ => False) := by
  refine met_introW (cc := cL_crossRatio) (maxL := 7) (ret := some .int) (hh := [(0, 13, 16, 19), (0, 13, 20, 57)]) (own := RL) (by decide) rfl rfl (Nat.le_of_ble_eq_true rfl) ?_
  intro pp ee ss mm args below meth cd Q ls hQ S hr hlocks htab hv hB hl
  obtain ⟨hx, hb, hml, hown, hts⟩ := id S
  obtain ⟨⟨hP, hK⟩, hG⟩ := hB
  have hl : lv_has ls 7 [(0, .ref (q 0)), (1, .int y0), (2, .int y1), (3, .int y2), (4, .int y3), (5, .ref o2)] := hl
  have hP2 : va_P D cls2 (cW q cI cD a0 rC fi fo fw fe ft fr fp fl ff) ss.heap := hP.sub [0, 1, 2, 3, 4, 5, 6, 7, 8, 9] rfl
  have hK2 : va_K D cls2 (tys2 cI cD) ss := hK.sub [0, 1] rfl
  refine lv_aload hx hb dL_crossRatio_0 (lv_at hl 5 rfl) ?_
  refine lv_iconst (v := nI 0) hx hb dL_crossRatio_2 (by decide) ?_
  refine lv_aload_n hx hb dL_crossRatio_3 rfl (lv_at hl 0 rfl) ?_
  refine lv_iload_n hx hb dL_crossRatio_4 rfl (lv_at hl 1 rfl) ?_
  refine lv_iload_n hx hb dL_crossRatio_5 rfl (lv_at hl 2 rfl) ?_
  refine lv_iload_n hx hb dL_crossRatio_6 rfl (lv_at hl 3 rfl) ?_
  refine lv_iload hx hb dL_crossRatio_7 (lv_at hl 4 rfl) ?_
  refine vx_calld (vx_runV (As := [.int y0, .int y1, .int y2, .int y3]) (rest := [.int (nI 0), .ref o2]) S hM (cwV 4 hts gL_crossRatio_X0_crossRatio rfl hrm.1 hrm.2.1 hdX0_crossRatio ⟨Nat.succ_le_succ hrm.2.2.1, Nat.le_trans (Nat.add_le_add_left hrm.2.2.2 _) (Nat.le_of_ble_eq_true rfl)⟩) (preX hK2 hP2 hG rfl rfl) rfl rfl hl.1 rfl (lv_room (Nat.le_of_ble_eq_true rfl)) dL_crossRatio_9 ⟨Nat.le_of_ble_eq_true rfl, Nat.le_of_ble_eq_true rfl⟩) (va_S.rf (A := fun _ => False)) (fun _ _ h => h) (fun _ h => h) (fun _ _ h => h) (fun E ce q9 u t H1 locs1 ht hvm hpx hBX hz hk9 hS1 hcell hcv hcl => ?_) (fun r u t H1 locs1 ht hvm hw _ _ _ _ => absurd hw id)
  replace hBX : E = eI := hBX
  subst hBX
  have hP1 : va_P D cls2 (cW q cI cD a0 rC fi fo fw fe ft fr fp fl ff ++ oW o o2 cJ cD f1 f2) H1 := fun k x hk => (hP k x hk).kept (hk9 _ (hP k x hk).lt (fun h => h))
  refine vx_catch (own := RL) (name := eI) (E := eI) hown [] ⟨0, 13, 16, 19⟩ [⟨0, 13, 20, 57⟩] htab (fun z hz => absurd hz List.not_mem_nil) (by decide) (by decide) (hts (.classLink RL 19 eI) (by decide +kernel)) (xW_use hG.2.2.1 (.castable eI eI) (by decide +kernel)) hcell hcv hcl ?_
  refine lv_astore (lv' := [(6, .ref q9), (0, .ref (q 0)), (1, .int y0), (2, .int y1), (3, .int y2), (4, .int y3), (5, .ref o2)]) hx hb dL_crossRatio_16 hl (by decide) rfl (fun ls hl => ?_)
  refine lv_iconst (v := nI 1) hx hb dL_crossRatio_18 (by decide) ?_
  subst hQ
  exact W.iret hx hb hr (fun t ht hWm => ⟨⟨_, (), rfl, rfl, (show va_P D cls2 _ t.heap from by rw [ht]; exact hP1)⟩, hS1.F ht⟩) hS1.2.2 dL_crossRatio_19
abbrev rz_L_crossRatio2 : Room := { frames := 8, cells := 1, slots := 6, locals := 139 }
set_option maxHeartbeats 4000000 in
set_option maxRecDepth 100000 in
theorem z_L_crossRatio2 {l : Launch} {sa : Nat → Nat} {D : va_G} {q : Nat → Nat} {o o2 : Nat} {cI cD cJ : ClassId} {a0 rC : Int32} {fi fo fw : Nat → Int32} {fe : Nat → UInt64} {ft fr fp fl : Nat → Int32} {ff : Nat → UInt64} {f1 : Nat → Int64} {f2 : Nat → UInt64} {y0 y1 y2 y3 : Int32} {rm : Room} (hrm : rm.cells = 1 ∧ rm.slots = 6 ∧ rm.frames ≤ 7 ∧ rm.locals ≤ 111) (hM : vx_Met l yX0_crossRatio wsX0_crossRatio rm (va_Pc [.ref (q 0), .int y0, .int y1, .int y2, .int y3] (xPre D (tys2 cI cD) (cW q cI cD a0 rC fi fo fw fe ft fr fp fl ff) sa)) (va_Qd (fun _ (_ : Unit) => False) (fun _ _ => True) (fun _ => False)) (xX eR) 1 6 (fun _ => False)) : Met l yL_crossRatio wsL_crossRatio rz_L_crossRatio2 (va_Pc [.ref (q 0), .int y0, .int y1, .int y2, .int y3, .ref o2] (xPre D (tys3 cI cD cJ) (cW q cI cD a0 rC fi fo fw fe ft fr fp fl ff ++ oW o o2 cJ cD f1 f2) sa)) (va_Qi (fun r (_ : Unit) => r = nI 2) (fun _ t => va_P D cls2 (cW q cI cD a0 rC fi fo fw fe ft fr fp fl ff ++ oW o o2 cJ cD f1 f2) t.heap) (fun _ => False)) 1 6 (fun _ => False) := by
  refine met_introW (cc := cL_crossRatio) (maxL := 7) (ret := some .int) (hh := [(0, 13, 16, 19), (0, 13, 20, 57)]) (own := RL) (by decide) rfl rfl (Nat.le_of_ble_eq_true rfl) ?_
  intro pp ee ss mm args below meth cd Q ls hQ S hr hlocks htab hv hB hl
  obtain ⟨hx, hb, hml, hown, hts⟩ := id S
  obtain ⟨⟨hP, hK⟩, hG⟩ := hB
  have hl : lv_has ls 7 [(0, .ref (q 0)), (1, .int y0), (2, .int y1), (3, .int y2), (4, .int y3), (5, .ref o2)] := hl
  have hP2 : va_P D cls2 (cW q cI cD a0 rC fi fo fw fe ft fr fp fl ff) ss.heap := hP.sub [0, 1, 2, 3, 4, 5, 6, 7, 8, 9] rfl
  have hK2 : va_K D cls2 (tys2 cI cD) ss := hK.sub [0, 1] rfl
  refine lv_aload hx hb dL_crossRatio_0 (lv_at hl 5 rfl) ?_
  refine lv_iconst (v := nI 0) hx hb dL_crossRatio_2 (by decide) ?_
  refine lv_aload_n hx hb dL_crossRatio_3 rfl (lv_at hl 0 rfl) ?_
  refine lv_iload_n hx hb dL_crossRatio_4 rfl (lv_at hl 1 rfl) ?_
  refine lv_iload_n hx hb dL_crossRatio_5 rfl (lv_at hl 2 rfl) ?_
  refine lv_iload_n hx hb dL_crossRatio_6 rfl (lv_at hl 3 rfl) ?_
  refine lv_iload hx hb dL_crossRatio_7 (lv_at hl 4 rfl) ?_
  refine vx_calld (vx_runV (As := [.int y0, .int y1, .int y2, .int y3]) (rest := [.int (nI 0), .ref o2]) S hM (cwV 4 hts gL_crossRatio_X0_crossRatio rfl hrm.1 hrm.2.1 hdX0_crossRatio ⟨Nat.succ_le_succ hrm.2.2.1, Nat.le_trans (Nat.add_le_add_left hrm.2.2.2 _) (Nat.le_of_ble_eq_true rfl)⟩) (preX hK2 hP2 hG rfl rfl) rfl rfl hl.1 rfl (lv_room (Nat.le_of_ble_eq_true rfl)) dL_crossRatio_9 ⟨Nat.le_of_ble_eq_true rfl, Nat.le_of_ble_eq_true rfl⟩) (va_S.rf (A := fun _ => False)) (fun _ _ h => h) (fun _ h => h) (fun _ _ h => h) (fun E ce q9 u t H1 locs1 ht hvm hpx hBX hz hk9 hS1 hcell hcv hcl => ?_) (fun r u t H1 locs1 ht hvm hw _ _ _ _ => absurd hw id)
  replace hBX : E = eR := hBX
  subst hBX
  have hP1 : va_P D cls2 (cW q cI cD a0 rC fi fo fw fe ft fr fp fl ff ++ oW o o2 cJ cD f1 f2) H1 := fun k x hk => (hP k x hk).kept (hk9 _ (hP k x hk).lt (fun h => h))
  refine vx_catch (own := RL) (name := eR) (E := eR) hown [⟨0, 13, 16, 19⟩] ⟨0, 13, 20, 57⟩ [] htab (fun z hz => by rw [List.mem_singleton.mp hz]; exact Or.inr ⟨by decide, eI, hts (.classLink RL 19 eI) (by decide +kernel), hG.2.2.2.2.2⟩) (by decide) (by decide) (hts (.classLink RL 57 eR) (by decide +kernel)) (xW_use hG.2.2.1 (.castable eR eR) (by decide +kernel)) hcell hcv hcl ?_
  refine lv_astore (lv' := [(6, .ref q9), (0, .ref (q 0)), (1, .int y0), (2, .int y1), (3, .int y2), (4, .int y3), (5, .ref o2)]) hx hb dL_crossRatio_20 hl (by decide) rfl (fun ls hl => ?_)
  refine lv_iconst (v := nI 2) hx hb dL_crossRatio_22 (by decide) ?_
  subst hQ
  exact W.iret hx hb hr (fun t ht hWm => ⟨⟨_, (), rfl, rfl, (show va_P D cls2 _ t.heap from by rw [ht]; exact hP1)⟩, hS1.F ht⟩) hS1.2.2 dL_crossRatio_23
abbrev rL_rounded : Room := { frames := 6, cells := 0, slots := 0, locals := 143 }
theorem hdL_rounded : yL_rounded.cls ≠ "java/lang/invoke/MethodHandle" ∧ yL_rounded.cls ≠ "java/lang/invoke/VarHandle" ∧ (parseMethodDescriptor yL_rounded.desc).map (fun d => d.parameters.length) = some 4 := by decide +kernel
set_option maxHeartbeats 4000000 in
set_option maxRecDepth 100000 in
theorem k_L_rounded {l : Launch} {D : va_G} {q : Nat → Nat} {o o2 : Nat} {cI cD cJ : ClassId} {a0 rC : Int32} {fi fo fw : Nat → Int32} {fe : Nat → UInt64} {ft fr fp fl : Nat → Int32} {ff : Nat → UInt64} {f1 : Nat → Int64} {f2 : Nat → UInt64} {T : Type} {post : Int32 → T → Prop} {wd : T → va_W} {y0 y1 : Int32} (hM : Met l yX0_rounded wsX0_rounded rX0_rounded (va_Pc [.ref (q 0), .int y0, .int y1] (wPre D (tys2 cI cD) (cW q cI cD a0 rC fi fo fw fe ft fr fp fl ff))) (va_Qi post (fun u t => va_P D cls2 (wd u) t.heap) (qA q)) 0 0 (qA q)) (hwd : ∀ u, (wd u).map (fun x => x.1) = [q 0, q 1, q 2, q 3, q 4, q 5, q 6, q 7, q 8, q 9]) (hd : d12 q o o2) : Met l yL_rounded wsL_rounded rL_rounded (va_Pc [.ref (q 0), .int y0, .int y1, .ref o] (wPre D (tys3 cI cD cJ) (cW q cI cD a0 rC fi fo fw fe ft fr fp fl ff ++ oW o o2 cJ cD f1 f2))) (va_Qi (fun r (u : Int32 × T) => r = nI 0 ∧ post u.1 u.2) (fun u t => va_P D cls2 (wd u.2 ++ oW o o2 cJ cD (vp_updL f1 0 (Int32.toInt64 u.1)) f2) t.heap) (A12 q o o2)) 0 0 (A12 q o o2) := by
  refine met_introW (cc := cL_rounded) (maxL := 5) (ret := some .int) (hh := [(0, 10, 13, 19)]) (own := RL) (by decide) rfl rfl (Nat.le_of_ble_eq_true rfl) ?_
  intro pp ee ss mm args below meth cd Q ls hQ S hr hlocks htab hv hB hl
  obtain ⟨hx, hb, hml, hown, hts⟩ := id S
  obtain ⟨hP, hK⟩ := hB
  have hl : lv_has ls 5 [(0, .ref (q 0)), (1, .int y0), (2, .int y1), (3, .ref o)] := hl
  have hP2 : va_P D cls2 (cW q cI cD a0 rC fi fo fw fe ft fr fp fl ff) ss.heap := hP.sub [0, 1, 2, 3, 4, 5, 6, 7, 8, 9] rfl
  have hK2 : va_K D cls2 (tys2 cI cD) ss := hK.sub [0, 1] rfl
  refine lv_aload_n hx hb dL_rounded_0 rfl (lv_at hl 3 rfl) ?_
  refine lv_iconst (v := nI 0) hx hb dL_rounded_1 (by decide) ?_
  refine lv_aload_n hx hb dL_rounded_2 rfl (lv_at hl 0 rfl) ?_
  refine lv_iload_n hx hb dL_rounded_3 rfl (lv_at hl 1 rfl) ?_
  refine lv_iload_n hx hb dL_rounded_4 rfl (lv_at hl 2 rfl) ?_
  refine va_calli (va_runV (As := [.int y0, .int y1]) (rest := [.int (nI 0), .ref o]) S hM (cwV 2 hts gL_rounded_X0_rounded rfl rfl rfl hdX0_rounded ⟨Nat.le_of_ble_eq_true rfl, Nat.le_of_ble_eq_true rfl⟩) (preV hK2 hP2 rfl rfl) rfl rfl hl.1 rfl (lv_room (Nat.le_of_ble_eq_true rfl)) dL_rounded_5 ⟨Nat.zero_le _, Nat.zero_le _⟩) (va_S.rf (A := A12 q o o2)) (fun _ _ h => Or.inl h) (fun _ h => Or.inl h) (fun r u t H locs ht hvm hw hB hz1 hk1 hS => ?_)
  replace hB : va_P D cls2 (wd u) t.heap := hB
  rw [ht] at hB
  have hP : va_P D cls2 (wd u ++ oW o o2 cJ cD f1 f2) H := glue (w := cW q cI cD a0 rC fi fo fw fe ft fr fp fl ff ++ oW o o2 cJ cD f1 f2) (w1 := cW q cI cD a0 rC fi fo fw fe ft fr fp fl ff) (w1' := wd u) (w2 := oW o o2 cJ cD f1 f2) hP (D12_of hd rfl) [0, 1, 2, 3, 4, 5, 6, 7, 8, 9] [10, 11] rfl rfl (by decide) (qA_in rfl) hk1 hB
  refine lv_i2l hx hb dL_rounded_8 rfl ?_
  refine o_last (w := wd u) hx hb hK hP (hwd u) hd hS dL_rounded_9 (fun H locs hP hS => ?_)
  refine lv_goto (tgt := 17) hx hb dL_rounded_10 (by decide) ?_
  refine lv_iconst (v := nI 0) hx hb dL_rounded_17 (by decide) ?_
  subst hQ
  exact W.iret hx hb hr (fun t ht hWm => ⟨⟨_, (r, u), rfl, ⟨rfl, hw⟩, (show va_P D cls2 _ t.heap from by rw [ht]; exact hP)⟩, hS.F ht⟩) hS.2.2 dL_rounded_18
abbrev rz_L_rounded1 : Room := { frames := 8, cells := 1, slots := 6, locals := 133 }
set_option maxHeartbeats 4000000 in
set_option maxRecDepth 100000 in
theorem z_L_rounded1 {l : Launch} {sa : Nat → Nat} {D : va_G} {q : Nat → Nat} {o o2 : Nat} {cI cD cJ : ClassId} {a0 rC : Int32} {fi fo fw : Nat → Int32} {fe : Nat → UInt64} {ft fr fp fl : Nat → Int32} {ff : Nat → UInt64} {f1 : Nat → Int64} {f2 : Nat → UInt64} {y0 y1 : Int32} {rm : Room} (hrm : rm.cells = 1 ∧ rm.slots = 6 ∧ rm.frames ≤ 7 ∧ rm.locals ≤ 111) (hM : vx_Met l yX0_rounded wsX0_rounded rm (va_Pc [.ref (q 0), .int y0, .int y1] (xPre D (tys2 cI cD) (cW q cI cD a0 rC fi fo fw fe ft fr fp fl ff) sa)) (va_Qi (fun _ (_ : Unit) => False) (fun _ _ => True) (fun _ => False)) (xX eI) 1 6 (fun _ => False)) : Met l yL_rounded wsL_rounded rz_L_rounded1 (va_Pc [.ref (q 0), .int y0, .int y1, .ref o] (xPre D (tys3 cI cD cJ) (cW q cI cD a0 rC fi fo fw fe ft fr fp fl ff ++ oW o o2 cJ cD f1 f2) sa)) (va_Qi (fun r (_ : Unit) => r = nI 1) (fun _ t => va_P D cls2 (cW q cI cD a0 rC fi fo fw fe ft fr fp fl ff ++ oW o o2 cJ cD f1 f2) t.heap) (fun _ => False)) 1 6 (fun _ => False) := by
  refine met_introW (cc := cL_rounded) (maxL := 5) (ret := some .int) (hh := [(0, 10, 13, 19)]) (own := RL) (by decide) rfl rfl (Nat.le_of_ble_eq_true rfl) ?_
  intro pp ee ss mm args below meth cd Q ls hQ S hr hlocks htab hv hB hl
  obtain ⟨hx, hb, hml, hown, hts⟩ := id S
  obtain ⟨⟨hP, hK⟩, hG⟩ := hB
  have hl : lv_has ls 5 [(0, .ref (q 0)), (1, .int y0), (2, .int y1), (3, .ref o)] := hl
  have hP2 : va_P D cls2 (cW q cI cD a0 rC fi fo fw fe ft fr fp fl ff) ss.heap := hP.sub [0, 1, 2, 3, 4, 5, 6, 7, 8, 9] rfl
  have hK2 : va_K D cls2 (tys2 cI cD) ss := hK.sub [0, 1] rfl
  refine lv_aload_n hx hb dL_rounded_0 rfl (lv_at hl 3 rfl) ?_
  refine lv_iconst (v := nI 0) hx hb dL_rounded_1 (by decide) ?_
  refine lv_aload_n hx hb dL_rounded_2 rfl (lv_at hl 0 rfl) ?_
  refine lv_iload_n hx hb dL_rounded_3 rfl (lv_at hl 1 rfl) ?_
  refine lv_iload_n hx hb dL_rounded_4 rfl (lv_at hl 2 rfl) ?_
  refine vx_calli (vx_runV (As := [.int y0, .int y1]) (rest := [.int (nI 0), .ref o]) S hM (cwV 2 hts gL_rounded_X0_rounded rfl hrm.1 hrm.2.1 hdX0_rounded ⟨Nat.succ_le_succ hrm.2.2.1, Nat.le_trans (Nat.add_le_add_left hrm.2.2.2 _) (Nat.le_of_ble_eq_true rfl)⟩) (preX hK2 hP2 hG rfl rfl) rfl rfl hl.1 rfl (lv_room (Nat.le_of_ble_eq_true rfl)) dL_rounded_5 ⟨Nat.le_of_ble_eq_true rfl, Nat.le_of_ble_eq_true rfl⟩) (va_S.rf (A := fun _ => False)) (fun _ _ h => h) (fun _ h => h) (fun _ _ h => h) (fun E ce q9 u t H1 locs1 ht hvm hpx hBX hz hk9 hS1 hcell hcv hcl => ?_) (fun r u t H1 locs1 ht hvm hw _ _ _ _ => absurd hw id)
  replace hBX : E = eI := hBX
  subst hBX
  have hP1 : va_P D cls2 (cW q cI cD a0 rC fi fo fw fe ft fr fp fl ff ++ oW o o2 cJ cD f1 f2) H1 := fun k x hk => (hP k x hk).kept (hk9 _ (hP k x hk).lt (fun h => h))
  refine vx_catch (own := RL) (name := eI) (E := eI) hown [] ⟨0, 10, 13, 19⟩ [] htab (fun z hz => absurd hz List.not_mem_nil) (by decide) (by decide) (hts (.classLink RL 19 eI) (by decide +kernel)) (xW_use hG.2.2.1 (.castable eI eI) (by decide +kernel)) hcell hcv hcl ?_
  refine lv_astore (lv' := [(4, .ref q9), (0, .ref (q 0)), (1, .int y0), (2, .int y1), (3, .ref o)]) hx hb dL_rounded_13 hl (by decide) rfl (fun ls hl => ?_)
  refine lv_iconst (v := nI 1) hx hb dL_rounded_15 (by decide) ?_
  subst hQ
  exact W.iret hx hb hr (fun t ht hWm => ⟨⟨_, (), rfl, rfl, (show va_P D cls2 _ t.heap from by rw [ht]; exact hP1)⟩, hS1.F ht⟩) hS1.2.2 dL_rounded_16
abbrev rL_possible : Room := { frames := 7, cells := 0, slots := 0, locals := 157 }
theorem hdL_possible : yL_possible.cls ≠ "java/lang/invoke/MethodHandle" ∧ yL_possible.cls ≠ "java/lang/invoke/VarHandle" ∧ (parseMethodDescriptor yL_possible.desc).map (fun d => d.parameters.length) = some 4 := by decide +kernel
set_option maxHeartbeats 4000000 in
set_option maxRecDepth 100000 in
theorem k_L_possible {l : Launch} {D : va_G} {q : Nat → Nat} {o o2 : Nat} {cI cD cJ : ClassId} {a0 rC : Int32} {fi fo fw : Nat → Int32} {fe : Nat → UInt64} {ft fr fp fl : Nat → Int32} {ff : Nat → UInt64} {f1 : Nat → Int64} {f2 : Nat → UInt64} {T : Type} {post : Int32 → T → Prop} {wd : T → va_W} {y0 y1 : Int32} (hM : Met l yX0_possible wsX0_possible rX0_possible (va_Pc [.ref (q 0), .int y0, .int y1] (wPre D (tys2 cI cD) (cW q cI cD a0 rC fi fo fw fe ft fr fp fl ff))) (va_Qi post (fun u t => va_P D cls2 (wd u) t.heap) (qA q)) 0 0 (qA q)) (hwd : ∀ u, (wd u).map (fun x => x.1) = [q 0, q 1, q 2, q 3, q 4, q 5, q 6, q 7, q 8, q 9]) (hd : d12 q o o2) : Met l yL_possible wsL_possible rL_possible (va_Pc [.ref (q 0), .int y0, .int y1, .ref o] (wPre D (tys3 cI cD cJ) (cW q cI cD a0 rC fi fo fw fe ft fr fp fl ff ++ oW o o2 cJ cD f1 f2))) (va_Qi (fun r (u : Int32 × T) => r = nI 0 ∧ post u.1 u.2) (fun u t => va_P D cls2 (wd u.2 ++ oW o o2 cJ cD (vp_updL f1 0 (Int32.toInt64 u.1)) f2) t.heap) (A12 q o o2)) 0 0 (A12 q o o2) := by
  refine met_introW (cc := cL_possible) (maxL := 5) (ret := some .int) (hh := [(0, 10, 13, 19)]) (own := RL) (by decide) rfl rfl (Nat.le_of_ble_eq_true rfl) ?_
  intro pp ee ss mm args below meth cd Q ls hQ S hr hlocks htab hv hB hl
  obtain ⟨hx, hb, hml, hown, hts⟩ := id S
  obtain ⟨hP, hK⟩ := hB
  have hl : lv_has ls 5 [(0, .ref (q 0)), (1, .int y0), (2, .int y1), (3, .ref o)] := hl
  have hP2 : va_P D cls2 (cW q cI cD a0 rC fi fo fw fe ft fr fp fl ff) ss.heap := hP.sub [0, 1, 2, 3, 4, 5, 6, 7, 8, 9] rfl
  have hK2 : va_K D cls2 (tys2 cI cD) ss := hK.sub [0, 1] rfl
  refine lv_aload_n hx hb dL_possible_0 rfl (lv_at hl 3 rfl) ?_
  refine lv_iconst (v := nI 0) hx hb dL_possible_1 (by decide) ?_
  refine lv_aload_n hx hb dL_possible_2 rfl (lv_at hl 0 rfl) ?_
  refine lv_iload_n hx hb dL_possible_3 rfl (lv_at hl 1 rfl) ?_
  refine lv_iload_n hx hb dL_possible_4 rfl (lv_at hl 2 rfl) ?_
  refine va_calli (va_runV (As := [.int y0, .int y1]) (rest := [.int (nI 0), .ref o]) S hM (cwV 2 hts gL_possible_X0_possible rfl rfl rfl hdX0_possible ⟨Nat.le_of_ble_eq_true rfl, Nat.le_of_ble_eq_true rfl⟩) (preV hK2 hP2 rfl rfl) rfl rfl hl.1 rfl (lv_room (Nat.le_of_ble_eq_true rfl)) dL_possible_5 ⟨Nat.zero_le _, Nat.zero_le _⟩) (va_S.rf (A := A12 q o o2)) (fun _ _ h => Or.inl h) (fun _ h => Or.inl h) (fun r u t H locs ht hvm hw hB hz1 hk1 hS => ?_)
  replace hB : va_P D cls2 (wd u) t.heap := hB
  rw [ht] at hB
  have hP : va_P D cls2 (wd u ++ oW o o2 cJ cD f1 f2) H := glue (w := cW q cI cD a0 rC fi fo fw fe ft fr fp fl ff ++ oW o o2 cJ cD f1 f2) (w1 := cW q cI cD a0 rC fi fo fw fe ft fr fp fl ff) (w1' := wd u) (w2 := oW o o2 cJ cD f1 f2) hP (D12_of hd rfl) [0, 1, 2, 3, 4, 5, 6, 7, 8, 9] [10, 11] rfl rfl (by decide) (qA_in rfl) hk1 hB
  refine lv_i2l hx hb dL_possible_8 rfl ?_
  refine o_last (w := wd u) hx hb hK hP (hwd u) hd hS dL_possible_9 (fun H locs hP hS => ?_)
  refine lv_goto (tgt := 17) hx hb dL_possible_10 (by decide) ?_
  refine lv_iconst (v := nI 0) hx hb dL_possible_17 (by decide) ?_
  subst hQ
  exact W.iret hx hb hr (fun t ht hWm => ⟨⟨_, (r, u), rfl, ⟨rfl, hw⟩, (show va_P D cls2 _ t.heap from by rw [ht]; exact hP)⟩, hS.F ht⟩) hS.2.2 dL_possible_18
abbrev rz_L_possible1 : Room := { frames := 8, cells := 1, slots := 6, locals := 133 }
set_option maxHeartbeats 4000000 in
set_option maxRecDepth 100000 in
theorem z_L_possible1 {l : Launch} {sa : Nat → Nat} {D : va_G} {q : Nat → Nat} {o o2 : Nat} {cI cD cJ : ClassId} {a0 rC : Int32} {fi fo fw : Nat → Int32} {fe : Nat → UInt64} {ft fr fp fl : Nat → Int32} {ff : Nat → UInt64} {f1 : Nat → Int64} {f2 : Nat → UInt64} {y0 y1 : Int32} {rm : Room} (hrm : rm.cells = 1 ∧ rm.slots = 6 ∧ rm.frames ≤ 7 ∧ rm.locals ≤ 111) (hM : vx_Met l yX0_possible wsX0_possible rm (va_Pc [.ref (q 0), .int y0, .int y1] (xPre D (tys2 cI cD) (cW q cI cD a0 rC fi fo fw fe ft fr fp fl ff) sa)) (va_Qi (fun _ (_ : Unit) => False) (fun _ _ => True) (fun _ => False)) (xX eI) 1 6 (fun _ => False)) : Met l yL_possible wsL_possible rz_L_possible1 (va_Pc [.ref (q 0), .int y0, .int y1, .ref o] (xPre D (tys3 cI cD cJ) (cW q cI cD a0 rC fi fo fw fe ft fr fp fl ff ++ oW o o2 cJ cD f1 f2) sa)) (va_Qi (fun r (_ : Unit) => r = nI 1) (fun _ t => va_P D cls2 (cW q cI cD a0 rC fi fo fw fe ft fr fp fl ff ++ oW o o2 cJ cD f1 f2) t.heap) (fun _ => False)) 1 6 (fun _ => False) := by
  refine met_introW (cc := cL_possible) (maxL := 5) (ret := some .int) (hh := [(0, 10, 13, 19)]) (own := RL) (by decide) rfl rfl (Nat.le_of_ble_eq_true rfl) ?_
  intro pp ee ss mm args below meth cd Q ls hQ S hr hlocks htab hv hB hl
  obtain ⟨hx, hb, hml, hown, hts⟩ := id S
  obtain ⟨⟨hP, hK⟩, hG⟩ := hB
  have hl : lv_has ls 5 [(0, .ref (q 0)), (1, .int y0), (2, .int y1), (3, .ref o)] := hl
  have hP2 : va_P D cls2 (cW q cI cD a0 rC fi fo fw fe ft fr fp fl ff) ss.heap := hP.sub [0, 1, 2, 3, 4, 5, 6, 7, 8, 9] rfl
  have hK2 : va_K D cls2 (tys2 cI cD) ss := hK.sub [0, 1] rfl
  refine lv_aload_n hx hb dL_possible_0 rfl (lv_at hl 3 rfl) ?_
  refine lv_iconst (v := nI 0) hx hb dL_possible_1 (by decide) ?_
  refine lv_aload_n hx hb dL_possible_2 rfl (lv_at hl 0 rfl) ?_
  refine lv_iload_n hx hb dL_possible_3 rfl (lv_at hl 1 rfl) ?_
  refine lv_iload_n hx hb dL_possible_4 rfl (lv_at hl 2 rfl) ?_
  refine vx_calli (vx_runV (As := [.int y0, .int y1]) (rest := [.int (nI 0), .ref o]) S hM (cwV 2 hts gL_possible_X0_possible rfl hrm.1 hrm.2.1 hdX0_possible ⟨Nat.succ_le_succ hrm.2.2.1, Nat.le_trans (Nat.add_le_add_left hrm.2.2.2 _) (Nat.le_of_ble_eq_true rfl)⟩) (preX hK2 hP2 hG rfl rfl) rfl rfl hl.1 rfl (lv_room (Nat.le_of_ble_eq_true rfl)) dL_possible_5 ⟨Nat.le_of_ble_eq_true rfl, Nat.le_of_ble_eq_true rfl⟩) (va_S.rf (A := fun _ => False)) (fun _ _ h => h) (fun _ h => h) (fun _ _ h => h) (fun E ce q9 u t H1 locs1 ht hvm hpx hBX hz hk9 hS1 hcell hcv hcl => ?_) (fun r u t H1 locs1 ht hvm hw _ _ _ _ => absurd hw id)
  replace hBX : E = eI := hBX
  subst hBX
  have hP1 : va_P D cls2 (cW q cI cD a0 rC fi fo fw fe ft fr fp fl ff ++ oW o o2 cJ cD f1 f2) H1 := fun k x hk => (hP k x hk).kept (hk9 _ (hP k x hk).lt (fun h => h))
  refine vx_catch (own := RL) (name := eI) (E := eI) hown [] ⟨0, 10, 13, 19⟩ [] htab (fun z hz => absurd hz List.not_mem_nil) (by decide) (by decide) (hts (.classLink RL 19 eI) (by decide +kernel)) (xW_use hG.2.2.1 (.castable eI eI) (by decide +kernel)) hcell hcv hcl ?_
  refine lv_astore (lv' := [(4, .ref q9), (0, .ref (q 0)), (1, .int y0), (2, .int y1), (3, .ref o)]) hx hb dL_possible_13 hl (by decide) rfl (fun ls hl => ?_)
  refine lv_iconst (v := nI 1) hx hb dL_possible_15 (by decide) ?_
  subst hQ
  exact W.iret hx hb hr (fun t ht hWm => ⟨⟨_, (), rfl, rfl, (show va_P D cls2 _ t.heap from by rw [ht]; exact hP1)⟩, hS1.F ht⟩) hS1.2.2 dL_possible_16
