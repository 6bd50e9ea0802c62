set_option maxHeartbeats 8000000 in
set_option maxRecDepth 100000 in
theorem law_0 {p : Program} {l : Launch} {e9 : Env} {s : State} {m : MethodId} {below : List Frame} {meth : Method} {c : Code} {b L : Nat} {xs : Nat → Int32} {D : va_G} {q q' : Nat → Nat} {o o2 : Nat} {cI cD cJ : ClassId} {sa : Nat → Nat} {i cells slots : Nat} {Q : State → Prop} (C : LCx p l s m meth c b L xs D q q' o o2 cI cD cJ sa) (hi : i + 4 < L) (hc : cells + 1 ≤ 3098 ∧ slots + 6 ≤ 119182) (K : LK p l e9 s m below meth c b D q q' o o2 cI cD cJ i cells slots Q)
    {n : Nat} {rC : Int32} {inf out : Nat → Int32} {w : Nat → Nat → Int32} {e : Nat → Nat → UInt64} {H : Heap} {locs : List Loc} {ls : Array Slot} (hOK : OKs n inf out w e) (hX : LX D q o o2 cI cD cJ n rC inf out w e H) (hM : LM D q' cI cD n rC inf out w e H) (hS : va_S (fun x : Nat => s.heap.size ≤ x) s.heap H locs) (hl : lv_has ls 10 (lvL q q' b o o2 i)) : W p l e9 room_1 s m #[Value.ref b] below meth c H locs cells slots Q (F0 m 156 ls []) := by
  obtain ⟨S, ⟨hr, hlocks⟩, hK, ⟨hd, hq', hdis⟩, ⟨hXs, hbl, hL⟩, hA1, hA2, hG, hlt⟩ := C
  obtain ⟨hx, hb, hml, hown, hts⟩ := id S
  obtain ⟨fi, fo, fw, fe, ft, fr, fp, fl, ff, f1, f2, hPx, hI, hO, hW, hE, T, hT, hT2⟩ := hX
  obtain ⟨th, hh, gi, go, gw, ge, gr, gf, gp, gl, gc, hPm, hI', hO', hW', hE'⟩ := hM
  have hK2 : va_K D cls2 (tys2 cI cD) s := hK.sub [0, 1] rfl
  have hq := hd.1
  obtain ⟨hn, hbI, hbO, hbW, hgE⟩ := id hOK
  obtain ⟨y1, hy1⟩ : ∃ y, y = xs (i + 1) := ⟨_, rfl⟩
  by_cases h : wth y1 (nI 3) (nI 6) = true
  · obtain ⟨n', h3, h6, rfl⟩ := wth_t (by decide) h (by decide)
    refine lv_aload_n hx hb dL_law_156 rfl (lv_at hl 1 rfl) ?_
    refine lv_aload_n hx hb dL_law_157 rfl (lv_at hl 0 rfl) ?_
    refine lv_iload hx hb dL_law_158 (lv_at hl 5 rfl) ?_
    refine lv_iconst (v := nI 1) hx hb dL_law_160 (by decide) ?_
    refine w_iadd hx hb dL_law_161 ?_
    refine w_scr hx hb hXs hbl hS (k := i + 1) (v := nI n') hy1.symm (by omega) hL dL_law_162 ?_
    refine lv_aload_n hx hb dL_law_163 rfl (lv_at hl 3 rfl) ?_
    refine va_calli (vx_runSW (As := [.ref (q 0), .int (nI n'), .ref o]) (rest := []) S (k_L_setArms (c_X0_setArms (n0 := n) ⟨h3, h6⟩ hT hq) (fun _ => rfl) hd) (vx_cwSW 3 hts gL_law_L_setArms rfl rfl rfl hdL_setArms ⟨Nat.le_of_ble_eq_true rfl, Nat.le_of_ble_eq_true rfl⟩) (preSP hK hPx) rfl rfl hl.1 rfl (lv_room (Nat.le_of_ble_eq_true rfl)) dL_law_164 ⟨Nat.le_trans (Nat.le_succ _) hc.1, Nat.le_trans (Nat.le_add_right _ 6) hc.2⟩) hS (fun _ _ h => hA1 _ h) (fun _ h => hA1 _ h) (fun r1 u1 t H locs ht hvm hw hB hz hk hS => ?_)
    have hPm := keepA hPm (wD_of hq' rfl) hdis hk
    obtain ⟨hw0, hw⟩ := hw
    subst hw0
    replace hB : va_P D cls2 (cW q cI cD (nI n') (nI 0) u1.2.1 u1.2.2.1 u1.2.2.2.1 u1.2.2.2.2.1 u1.2.2.2.2.2 fr fp fl ff ++ oW o o2 cJ cD (vp_updL f1 0 (Int32.toInt64 u1.1)) f2) t.heap := hB
    rw [ht] at hB
    have hPx := hB
    obtain ⟨hr1, hI, hO, hW, hE, T9, hT, hT2⟩ := hw
    rw [hr1] at hPx
    refine lv_istore (lv' := [(6, .int (nI 0)), (0, .ref b), (1, .ref (q 0)), (2, .ref (q' 0)), (3, .ref o), (4, .ref o2), (5, .int (nI i))]) hx hb dL_law_167 hl (by decide) rfl (fun ls hl => ?_)
    refine lv_aload_n hx hb dL_law_169 rfl (lv_at hl 3 rfl) ?_
    refine lv_aload_n hx hb dL_law_170 rfl (lv_at hl 1 rfl) ?_
    refine lv_iload hx hb dL_law_171 (lv_at hl 6 rfl) ?_
    refine lv_iconst (v := nI 1) hx hb dL_law_173 (by decide) ?_
    refine w_iadd hx hb dL_law_174 ?_
    refine w_scr hx hb hXs hbl hS (k := i + 1) (v := nI n') hy1.symm (by omega) hL dL_law_175 ?_
    refine va_calli (va_runV (As := [.int (nI n')]) (rest := []) S (c_X1_setArms (n0 := n) ⟨h3, h6⟩ hq') (cwV 1 hts gL_law_X1_setArms rfl rfl rfl hdX1_setArms ⟨Nat.le_of_ble_eq_true rfl, Nat.le_of_ble_eq_true rfl⟩) (preV hK2 hPm rfl rfl) rfl rfl hl.1 rfl (lv_room (Nat.le_of_ble_eq_true rfl)) dL_law_176 ⟨Nat.le_trans (Nat.le_succ _) hc.1, Nat.le_trans (Nat.le_add_right _ 6) hc.2⟩) hS (fun _ _ h => hA2 _ h) (fun _ h => hA2 _ h) (fun r2 u2 t H locs ht hvm hw2 hB hz hk hS => ?_)
    have hPx := keepA hPx (D12_of hd rfl) (fun x h1 h2 => hdis x h2 h1) hk
    replace hB : va_P D cls2 (mW q' cI cD (nI 0) (nI n') (nI 0) hh u2.1 u2.2.1 u2.2.2.1 u2.2.2.2 gr gf gp gl gc) t.heap := hB
    rw [ht] at hB
    have hPm := hB
    obtain ⟨hr2, hI', hO', hW', hE'⟩ := hw2
    rw [hr2]
    refine lv_istore (lv' := [(7, .int (nI n)), (6, .int (nI 0)), (0, .ref b), (1, .ref (q 0)), (2, .ref (q' 0)), (3, .ref o), (4, .ref o2), (5, .int (nI i))]) hx hb dL_law_179 hl (by decide) rfl (fun ls hl => ?_)
    refine lv_aload_n hx hb dL_law_181 rfl (lv_at hl 4 rfl) ?_
    refine vp_callSi (W.runV (As := []) (rest := []) S (c_X1_thrown) (cwV 0 hts gL_law_X1_thrown rfl rfl rfl hdX1_thrown ⟨Nat.le_of_ble_eq_true rfl, Nat.le_of_ble_eq_true rfl⟩) (preV hK2 hPm rfl rfl) rfl rfl hl.1 rfl (lv_room (Nat.le_of_ble_eq_true rfl)) dL_law_182 ⟨Nat.le_trans (Nat.le_succ _) hc.1, Nat.le_trans (Nat.le_add_right _ 6) hc.2⟩) (fun r3 er3 => ?_)
    subst er3
    refine lv_iload hx hb dL_law_185 (lv_at hl 1 rfl) ?_
    refine lv_icmp_eq (tgt := 192) hx hb dL_law_187 (by decide) (fun _ => ?_) (fun h => absurd rfl h)
    refine lv_iload hx hb dL_law_192 (lv_at hl 1 rfl) ?_
    refine lv_if_ne (tgt := 209) hx hb dL_law_194 (by decide) (fun h194_0 => absurd (by decide) h194_0) (fun h194_0 => ?_)
    refine lv_aload_n hx hb dL_law_197 rfl (lv_at hl 5 rfl) ?_
    refine lv_iconst (v := nI 0) hx hb dL_law_198 (by decide) ?_
    refine w_lald hx hb hK hPx 10 2 rfl rfl (j := 0) (v := Int32.toInt64 (nI n)) (updL_self _ _ _) (by decide) (by decide) dL_law_199 ?_
    refine lv_iload hx hb dL_law_200 (lv_at hl 0 rfl) ?_
    refine lv_i2l hx hb dL_law_202 rfl ?_
    refine w_lcmp0 hx hb dL_law_203 ?_
    refine lv_if_eq (tgt := 209) hx hb dL_law_204 (by decide) (fun h204_1 => ?_) (fun h204_1 => absurd (by decide) h204_1)
    refine lv_goto (tgt := 1355) hx hb dL_law_209 (by decide) ?_
    refine W.widen (k := cells + 1) (n := slots + 6) (Nat.le_succ _) (Nat.le_add_right _ 6) ?_
    exact K n' (nI 0) (fun _ => nI 0) (fun _ => nI 0) w0 (lay w0) _ _ _ ⟨⟨h3, h6⟩, BD_0 _, BD_0 _, BW_0 _, GE_lay (BW_0 _)⟩ ⟨_, _, _, _, _, _, _, _, _, _, _, hPx, hI, hO, hW, hE, _, hT, hT2⟩ ⟨_, _, _, _, _, _, _, _, _, _, _, hPm, hI', hO', hW', hE'⟩ hS (lv_sub hl [2, 3, 4, 5, 6, 7] rfl)
  · replace h := Bool.not_eq_true _ |>.mp h
    refine lv_aload_n hx hb dL_law_156 rfl (lv_at hl 1 rfl) ?_
    refine lv_aload_n hx hb dL_law_157 rfl (lv_at hl 0 rfl) ?_
    refine lv_iload hx hb dL_law_158 (lv_at hl 5 rfl) ?_
    refine lv_iconst (v := nI 1) hx hb dL_law_160 (by decide) ?_
    refine w_iadd hx hb dL_law_161 ?_
    refine w_scr hx hb hXs hbl hS (k := i + 1) (v := y1) hy1.symm (by omega) hL dL_law_162 ?_
    refine lv_aload_n hx hb dL_law_163 rfl (lv_at hl 3 rfl) ?_
    refine va_calli (vx_runSW (As := [.ref (q 0), .int y1, .ref o]) (rest := []) S (z_L_setArms1 ⟨rfl, rfl, Nat.le_of_ble_eq_true rfl, Nat.le_of_ble_eq_true rfl⟩ (x_X0_setArms hlt h)) (vx_cwSW 3 hts gL_law_L_setArms rfl rfl rfl hdL_setArms ⟨Nat.le_of_ble_eq_true rfl, Nat.le_of_ble_eq_true rfl⟩) (preSX hK hPx (xG.keep hG hS)) rfl rfl hl.1 rfl (lv_room (Nat.le_of_ble_eq_true rfl)) dL_law_164 ⟨hc.1, hc.2⟩) hS (fun _ _ h => h.elim) (fun _ h => h.elim) (fun r1 u1 t H locs ht hvm hw hB hz hk hS => ?_)
    have hPm := keepA hPm (wD_of hq' rfl) (fun x _ h => h) hk
    replace hw : r1 = nI 1 := hw
    subst hw
    replace hB : va_P D cls2 (cW q cI cD (nI n) rC fi fo fw fe ft fr fp fl ff ++ oW o o2 cJ cD f1 f2) t.heap := hB
    rw [ht] at hB
    have hPx := hB
    refine lv_istore (lv' := [(6, .int (nI 1)), (0, .ref b), (1, .ref (q 0)), (2, .ref (q' 0)), (3, .ref o), (4, .ref o2), (5, .int (nI i))]) hx hb dL_law_167 hl (by decide) rfl (fun ls hl => ?_)
    refine lv_aload_n hx hb dL_law_169 rfl (lv_at hl 3 rfl) ?_
    refine lv_aload_n hx hb dL_law_170 rfl (lv_at hl 1 rfl) ?_
    refine lv_iload hx hb dL_law_171 (lv_at hl 6 rfl) ?_
    refine lv_iconst (v := nI 1) hx hb dL_law_173 (by decide) ?_
    refine w_iadd hx hb dL_law_174 ?_
    refine w_scr hx hb hXs hbl hS (k := i + 1) (v := y1) hy1.symm (by omega) hL dL_law_175 ?_
    refine va_calli (va_runV (As := [.int y1]) (rest := []) S (c_X1_setArmsx hn h hq') (cwV 1 hts gL_law_X1_setArms rfl rfl rfl hdX1_setArms ⟨Nat.le_of_ble_eq_true rfl, Nat.le_of_ble_eq_true rfl⟩) (preV hK2 hPm rfl rfl) rfl rfl hl.1 rfl (lv_room (Nat.le_of_ble_eq_true rfl)) dL_law_176 ⟨hc.1, hc.2⟩) hS (fun _ _ h => hA2 _ h) (fun _ h => hA2 _ h) (fun r2 u2 t H locs ht hvm hw2 hB hz hk hS => ?_)
    have hPx := keepA hPx (D12_of hd rfl) (fun x h1 h2 => hdis x h2 h1) hk
    replace hB : va_P D cls2 (mW q' cI cD (nI 1) (nI n) rC hh gi go gw ge gr gf gp gl gc) t.heap := hB
    rw [ht] at hB
    have hPm := hB
    refine lv_istore (lv' := [(7, .int r2), (6, .int (nI 1)), (0, .ref b), (1, .ref (q 0)), (2, .ref (q' 0)), (3, .ref o), (4, .ref o2), (5, .int (nI i))]) hx hb dL_law_179 hl (by decide) rfl (fun ls hl => ?_)
    refine lv_aload_n hx hb dL_law_181 rfl (lv_at hl 4 rfl) ?_
    refine vp_callSi (W.runV (As := []) (rest := []) S (c_X1_thrown) (cwV 0 hts gL_law_X1_thrown rfl rfl rfl hdX1_thrown ⟨Nat.le_of_ble_eq_true rfl, Nat.le_of_ble_eq_true rfl⟩) (preV hK2 hPm rfl rfl) rfl rfl hl.1 rfl (lv_room (Nat.le_of_ble_eq_true rfl)) dL_law_182 ⟨hc.1, hc.2⟩) (fun r3 er3 => ?_)
    subst er3
    refine lv_iload hx hb dL_law_185 (lv_at hl 1 rfl) ?_
    refine lv_icmp_eq (tgt := 192) hx hb dL_law_187 (by decide) (fun _ => ?_) (fun h => absurd rfl h)
    refine lv_iload hx hb dL_law_192 (lv_at hl 1 rfl) ?_
    refine lv_if_ne (tgt := 209) hx hb dL_law_194 (by decide) (fun h194_0 => ?_) (fun h194_0 => absurd h194_0 (by decide))
    refine lv_goto (tgt := 1355) hx hb dL_law_209 (by decide) ?_
    exact K n rC inf out w e _ _ _ hOK ⟨_, _, _, _, _, _, _, _, _, _, _, hPx, hI, hO, hW, hE, _, hT, hT2⟩ ⟨_, _, _, _, _, _, _, _, _, _, _, hPm, hI', hO', hW', hE'⟩ hS (lv_sub hl [2, 3, 4, 5, 6, 7] rfl)
set_option maxHeartbeats 8000000 in
set_option maxRecDepth 100000 in
theorem law_2 {p : Program} {l : Launch} {e9 : Env} {s : State} {m : MethodId} {below : List Frame} {meth : Method} {c : Code} {b L : Nat} {xs : Nat → Int32} {D : va_G} {q q' : Nat → Nat} {o o2 : Nat} {cI cD cJ : ClassId} {sa : Nat → Nat} {i cells slots : Nat} {Q : State → Prop} (C : LCx p l s m meth c b L xs D q q' o o2 cI cD cJ sa) (hi : i + 4 < L) (hc : cells + 1 ≤ 3098 ∧ slots + 6 ≤ 119182) (K : LK p l e9 s m below meth c b D q q' o o2 cI cD cJ i cells slots Q)
    {n : Nat} {rC : Int32} {inf out : Nat → Int32} {w : Nat → Nat → Int32} {e : Nat → Nat → UInt64} {H : Heap} {locs : List Loc} {ls : Array Slot} (hOK : OKs n inf out w e) (hX : LX D q o o2 cI cD cJ n rC inf out w e H) (hM : LM D q' cI cD n rC inf out w e H) (hS : va_S (fun x : Nat => s.heap.size ≤ x) s.heap H locs) (hl : lv_has ls 10 (lvL q q' b o o2 i)) : W p l e9 room_1 s m #[Value.ref b] below meth c H locs cells slots Q (F0 m 225 ls []) := by
  obtain ⟨S, ⟨hr, hlocks⟩, hK, ⟨hd, hq', hdis⟩, ⟨hXs, hbl, hL⟩, hA1, hA2, hG, hlt⟩ := C
  obtain ⟨hx, hb, hml, hown, hts⟩ := id S
  obtain ⟨fi, fo, fw, fe, ft, fr, fp, fl, ff, f1, f2, hPx, hI, hO, hW, hE, T, hT, hT2⟩ := hX
  obtain ⟨th, hh, gi, go, gw, ge, gr, gf, gp, gl, gc, hPm, hI', hO', hW', hE'⟩ := hM
  have hK2 : va_K D cls2 (tys2 cI cD) s := hK.sub [0, 1] rfl
  have hq := hd.1
  obtain ⟨hn, hbI, hbO, hbW, hgE⟩ := id hOK
  obtain ⟨y1, hy1⟩ : ∃ y, y = xs (i + 1) := ⟨_, rfl⟩
  obtain ⟨y2, hy2⟩ : ∃ y, y = xs (i + 2) := ⟨_, rfl⟩
  by_cases h1 : armB n y1 = true
  · obtain ⟨i0, hi0, rfl⟩ := arm_t hn h1
    by_cases h2 : wth y2 (nI 0) (nI 9999) = true
    · have hz0 := hi0
      refine lv_aload_n hx hb dL_law_225 rfl (lv_at hl 1 rfl) ?_
      refine lv_aload_n hx hb dL_law_226 rfl (lv_at hl 0 rfl) ?_
      refine lv_iload hx hb dL_law_227 (lv_at hl 5 rfl) ?_
      refine lv_iconst (v := nI 1) hx hb dL_law_229 (by decide) ?_
      refine w_iadd hx hb dL_law_230 ?_
      refine w_scr hx hb hXs hbl hS (k := i + 1) (v := nI i0) hy1.symm (by omega) hL dL_law_231 ?_
      refine lv_aload_n hx hb dL_law_232 rfl (lv_at hl 0 rfl) ?_
      refine lv_iload hx hb dL_law_233 (lv_at hl 5 rfl) ?_
      refine lv_iconst (v := nI 2) hx hb dL_law_235 (by decide) ?_
      refine w_iadd hx hb dL_law_236 ?_
      refine w_scr hx hb hXs hbl hS (k := i + 2) (v := y2) hy2.symm (by omega) hL dL_law_237 ?_
      refine lv_aload_n hx hb dL_law_238 rfl (lv_at hl 3 rfl) ?_
      refine va_calli (vx_runSW (As := [.ref (q 0), .int (nI i0), .int y2, .ref o]) (rest := []) S (k_L_setInflow (c_X0_setInflow hn hI hW hi0 (wth_t1 h2) (wth_t2 h2) hq) (fun _ => rfl) hd) (vx_cwSW 4 hts gL_law_L_setInflow rfl rfl rfl hdL_setInflow ⟨Nat.le_of_ble_eq_true rfl, Nat.le_of_ble_eq_true rfl⟩) (preSP hK hPx) rfl rfl hl.1 rfl (lv_room (Nat.le_of_ble_eq_true rfl)) dL_law_239 ⟨Nat.le_trans (Nat.le_succ _) hc.1, Nat.le_trans (Nat.le_add_right _ 6) hc.2⟩) hS (fun _ _ h => hA1 _ h) (fun _ h => hA1 _ h) (fun r1 u1 t H locs ht hvm hw hB hz hk hS => ?_)
      have hPm := keepA hPm (wD_of hq' rfl) hdis hk
      obtain ⟨hw0, hw⟩ := hw
      subst hw0
      replace hB : va_P D cls2 (cW q cI cD (nI n) (nI 0) u1.2.1 fo fw u1.2.2 ft fr fp fl ff ++ oW o o2 cJ cD (vp_updL f1 0 (Int32.toInt64 u1.1)) f2) t.heap := hB
      rw [ht] at hB
      have hPx := hB
      obtain ⟨hr1, hI, hE⟩ := hw
      rw [hr1] at hPx
      refine lv_istore (lv' := [(6, .int (nI 0)), (0, .ref b), (1, .ref (q 0)), (2, .ref (q' 0)), (3, .ref o), (4, .ref o2), (5, .int (nI i))]) hx hb dL_law_242 hl (by decide) rfl (fun ls hl => ?_)
      refine lv_aload_n hx hb dL_law_244 rfl (lv_at hl 3 rfl) ?_
      refine lv_aload_n hx hb dL_law_245 rfl (lv_at hl 1 rfl) ?_
      refine lv_iload hx hb dL_law_246 (lv_at hl 6 rfl) ?_
      refine lv_iconst (v := nI 1) hx hb dL_law_248 (by decide) ?_
      refine w_iadd hx hb dL_law_249 ?_
      refine w_scr hx hb hXs hbl hS (k := i + 1) (v := nI i0) hy1.symm (by omega) hL dL_law_250 ?_
      refine lv_aload_n hx hb dL_law_251 rfl (lv_at hl 1 rfl) ?_
      refine lv_iload hx hb dL_law_252 (lv_at hl 6 rfl) ?_
      refine lv_iconst (v := nI 2) hx hb dL_law_254 (by decide) ?_
      refine w_iadd hx hb dL_law_255 ?_
      refine w_scr hx hb hXs hbl hS (k := i + 2) (v := y2) hy2.symm (by omega) hL dL_law_256 ?_
      refine va_calli (va_runV (As := [.int (nI i0), .int y2]) (rest := []) S (c_X1_setInflow hn hI' hW' hi0 h2 hq') (cwV 2 hts gL_law_X1_setInflow rfl rfl rfl hdX1_setInflow ⟨Nat.le_of_ble_eq_true rfl, Nat.le_of_ble_eq_true rfl⟩) (preV hK2 hPm rfl rfl) rfl rfl hl.1 rfl (lv_room (Nat.le_of_ble_eq_true rfl)) dL_law_257 ⟨Nat.le_trans (Nat.le_succ _) hc.1, Nat.le_trans (Nat.le_add_right _ 6) hc.2⟩) hS (fun _ _ h => hA2 _ h) (fun _ h => hA2 _ h) (fun r2 u2 t H locs ht hvm hw2 hB hz hk hS => ?_)
      have hPx := keepA hPx (D12_of hd rfl) (fun x h1 h2 => hdis x h2 h1) hk
      replace hB : va_P D cls2 (mW q' cI cD (nI 0) (nI n) (nI 0) hh u2.1 go gw u2.2 gr gf gp gl gc) t.heap := hB
      rw [ht] at hB
      have hPm := hB
      obtain ⟨hr2, hI', hE'⟩ := hw2
      rw [hr2]
      refine lv_istore (lv' := [(7, .int (inf i0)), (6, .int (nI 0)), (0, .ref b), (1, .ref (q 0)), (2, .ref (q' 0)), (3, .ref o), (4, .ref o2), (5, .int (nI i))]) hx hb dL_law_260 hl (by decide) rfl (fun ls hl => ?_)
      refine lv_aload_n hx hb dL_law_262 rfl (lv_at hl 4 rfl) ?_
      refine vp_callSi (W.runV (As := []) (rest := []) S (c_X1_thrown) (cwV 0 hts gL_law_X1_thrown rfl rfl rfl hdX1_thrown ⟨Nat.le_of_ble_eq_true rfl, Nat.le_of_ble_eq_true rfl⟩) (preV hK2 hPm rfl rfl) rfl rfl hl.1 rfl (lv_room (Nat.le_of_ble_eq_true rfl)) dL_law_263 ⟨Nat.le_trans (Nat.le_succ _) hc.1, Nat.le_trans (Nat.le_add_right _ 6) hc.2⟩) (fun r3 er3 => ?_)
      subst er3
      refine lv_iload hx hb dL_law_266 (lv_at hl 1 rfl) ?_
      refine lv_icmp_eq (tgt := 273) hx hb dL_law_268 (by decide) (fun _ => ?_) (fun h => absurd rfl h)
      refine lv_iload hx hb dL_law_273 (lv_at hl 1 rfl) ?_
      refine lv_if_ne (tgt := 290) hx hb dL_law_275 (by decide) (fun h275_0 => absurd (by decide) h275_0) (fun h275_0 => ?_)
      refine lv_aload_n hx hb dL_law_278 rfl (lv_at hl 5 rfl) ?_
      refine lv_iconst (v := nI 0) hx hb dL_law_279 (by decide) ?_
      refine w_lald hx hb hK hPx 10 2 rfl rfl (j := 0) (v := Int32.toInt64 (inf i0)) (updL_self _ _ _) (by decide) (by decide) dL_law_280 ?_
      refine lv_iload hx hb dL_law_281 (lv_at hl 0 rfl) ?_
      refine lv_i2l hx hb dL_law_283 rfl ?_
      refine w_lcmp0 hx hb dL_law_284 ?_
      refine lv_if_eq (tgt := 290) hx hb dL_law_285 (by decide) (fun h285_1 => ?_) (fun h285_1 => absurd (by decide) h285_1)
      refine lv_goto (tgt := 1355) hx hb dL_law_290 (by decide) ?_
      refine W.widen (k := cells + 1) (n := slots + 6) (Nat.le_succ _) (Nat.le_add_right _ 6) ?_
      exact K n (nI 0) (upd inf i0 y2) out w (lay w) _ _ _ ⟨hn, BD_upd hbI (wth_bd (by decide) h2), hbO, hbW, GE_lay hbW⟩ ⟨_, _, _, _, _, _, _, _, _, _, _, hPx, hI, hO, hW, hE, _, hT, hT2⟩ ⟨_, _, _, _, _, _, _, _, _, _, _, hPm, hI', hO', hW', hE'⟩ hS (lv_sub hl [2, 3, 4, 5, 6, 7] rfl)
    · replace h2 := Bool.not_eq_true _ |>.mp h2
      refine lv_aload_n hx hb dL_law_225 rfl (lv_at hl 1 rfl) ?_
      refine lv_aload_n hx hb dL_law_226 rfl (lv_at hl 0 rfl) ?_
      refine lv_iload hx hb dL_law_227 (lv_at hl 5 rfl) ?_
      refine lv_iconst (v := nI 1) hx hb dL_law_229 (by decide) ?_
      refine w_iadd hx hb dL_law_230 ?_
      refine w_scr hx hb hXs hbl hS (k := i + 1) (v := nI i0) hy1.symm (by omega) hL dL_law_231 ?_
      refine lv_aload_n hx hb dL_law_232 rfl (lv_at hl 0 rfl) ?_
      refine lv_iload hx hb dL_law_233 (lv_at hl 5 rfl) ?_
      refine lv_iconst (v := nI 2) hx hb dL_law_235 (by decide) ?_
      refine w_iadd hx hb dL_law_236 ?_
      refine w_scr hx hb hXs hbl hS (k := i + 2) (v := y2) hy2.symm (by omega) hL dL_law_237 ?_
      refine lv_aload_n hx hb dL_law_238 rfl (lv_at hl 3 rfl) ?_
      refine va_calli (vx_runSW (As := [.ref (q 0), .int (nI i0), .int y2, .ref o]) (rest := []) S (z_L_setInflow2 ⟨rfl, rfl, Nat.le_of_ble_eq_true rfl, Nat.le_of_ble_eq_true rfl⟩ (x_X0_setInflow2 hlt hn hi0 h2)) (vx_cwSW 4 hts gL_law_L_setInflow rfl rfl rfl hdL_setInflow ⟨Nat.le_of_ble_eq_true rfl, Nat.le_of_ble_eq_true rfl⟩) (preSX hK hPx (xG.keep hG hS)) rfl rfl hl.1 rfl (lv_room (Nat.le_of_ble_eq_true rfl)) dL_law_239 ⟨hc.1, hc.2⟩) hS (fun _ _ h => h.elim) (fun _ h => h.elim) (fun r1 u1 t H locs ht hvm hw hB hz hk hS => ?_)
      have hPm := keepA hPm (wD_of hq' rfl) (fun x _ h => h) hk
      replace hw : r1 = nI 2 := hw
      subst hw
      replace hB : va_P D cls2 (cW q cI cD (nI n) rC fi fo fw fe ft fr fp fl ff ++ oW o o2 cJ cD f1 f2) t.heap := hB
      rw [ht] at hB
      have hPx := hB
      refine lv_istore (lv' := [(6, .int (nI 2)), (0, .ref b), (1, .ref (q 0)), (2, .ref (q' 0)), (3, .ref o), (4, .ref o2), (5, .int (nI i))]) hx hb dL_law_242 hl (by decide) rfl (fun ls hl => ?_)
      refine lv_aload_n hx hb dL_law_244 rfl (lv_at hl 3 rfl) ?_
      refine lv_aload_n hx hb dL_law_245 rfl (lv_at hl 1 rfl) ?_
      refine lv_iload hx hb dL_law_246 (lv_at hl 6 rfl) ?_
      refine lv_iconst (v := nI 1) hx hb dL_law_248 (by decide) ?_
      refine w_iadd hx hb dL_law_249 ?_
      refine w_scr hx hb hXs hbl hS (k := i + 1) (v := nI i0) hy1.symm (by omega) hL dL_law_250 ?_
      refine lv_aload_n hx hb dL_law_251 rfl (lv_at hl 1 rfl) ?_
      refine lv_iload hx hb dL_law_252 (lv_at hl 6 rfl) ?_
      refine lv_iconst (v := nI 2) hx hb dL_law_254 (by decide) ?_
      refine w_iadd hx hb dL_law_255 ?_
      refine w_scr hx hb hXs hbl hS (k := i + 2) (v := y2) hy2.symm (by omega) hL dL_law_256 ?_
      refine va_calli (va_runV (As := [.int (nI i0), .int y2]) (rest := []) S (c_X1_setInflowx2 hn hi0 h2 hq') (cwV 2 hts gL_law_X1_setInflow rfl rfl rfl hdX1_setInflow ⟨Nat.le_of_ble_eq_true rfl, Nat.le_of_ble_eq_true rfl⟩) (preV hK2 hPm rfl rfl) rfl rfl hl.1 rfl (lv_room (Nat.le_of_ble_eq_true rfl)) dL_law_257 ⟨hc.1, hc.2⟩) hS (fun _ _ h => hA2 _ h) (fun _ h => hA2 _ h) (fun r2 u2 t H locs ht hvm hw2 hB hz hk hS => ?_)
      have hPx := keepA hPx (D12_of hd rfl) (fun x h1 h2 => hdis x h2 h1) hk
      replace hB : va_P D cls2 (mW q' cI cD (nI 2) (nI n) rC hh gi go gw ge gr gf gp gl gc) t.heap := hB
      rw [ht] at hB
      have hPm := hB
      refine lv_istore (lv' := [(7, .int r2), (6, .int (nI 2)), (0, .ref b), (1, .ref (q 0)), (2, .ref (q' 0)), (3, .ref o), (4, .ref o2), (5, .int (nI i))]) hx hb dL_law_260 hl (by decide) rfl (fun ls hl => ?_)
      refine lv_aload_n hx hb dL_law_262 rfl (lv_at hl 4 rfl) ?_
      refine vp_callSi (W.runV (As := []) (rest := []) S (c_X1_thrown) (cwV 0 hts gL_law_X1_thrown rfl rfl rfl hdX1_thrown ⟨Nat.le_of_ble_eq_true rfl, Nat.le_of_ble_eq_true rfl⟩) (preV hK2 hPm rfl rfl) rfl rfl hl.1 rfl (lv_room (Nat.le_of_ble_eq_true rfl)) dL_law_263 ⟨hc.1, hc.2⟩) (fun r3 er3 => ?_)
      subst er3
      refine lv_iload hx hb dL_law_266 (lv_at hl 1 rfl) ?_
      refine lv_icmp_eq (tgt := 273) hx hb dL_law_268 (by decide) (fun _ => ?_) (fun h => absurd rfl h)
      refine lv_iload hx hb dL_law_273 (lv_at hl 1 rfl) ?_
      refine lv_if_ne (tgt := 290) hx hb dL_law_275 (by decide) (fun h275_0 => ?_) (fun h275_0 => absurd h275_0 (by decide))
      refine lv_goto (tgt := 1355) hx hb dL_law_290 (by decide) ?_
      exact K n rC inf out w e _ _ _ hOK ⟨_, _, _, _, _, _, _, _, _, _, _, hPx, hI, hO, hW, hE, _, hT, hT2⟩ ⟨_, _, _, _, _, _, _, _, _, _, _, hPm, hI', hO', hW', hE'⟩ hS (lv_sub hl [2, 3, 4, 5, 6, 7] rfl)
  · replace h1 := Bool.not_eq_true _ |>.mp h1
    refine lv_aload_n hx hb dL_law_225 rfl (lv_at hl 1 rfl) ?_
    refine lv_aload_n hx hb dL_law_226 rfl (lv_at hl 0 rfl) ?_
    refine lv_iload hx hb dL_law_227 (lv_at hl 5 rfl) ?_
    refine lv_iconst (v := nI 1) hx hb dL_law_229 (by decide) ?_
    refine w_iadd hx hb dL_law_230 ?_
    refine w_scr hx hb hXs hbl hS (k := i + 1) (v := y1) hy1.symm (by omega) hL dL_law_231 ?_
    refine lv_aload_n hx hb dL_law_232 rfl (lv_at hl 0 rfl) ?_
    refine lv_iload hx hb dL_law_233 (lv_at hl 5 rfl) ?_
    refine lv_iconst (v := nI 2) hx hb dL_law_235 (by decide) ?_
    refine w_iadd hx hb dL_law_236 ?_
    refine w_scr hx hb hXs hbl hS (k := i + 2) (v := y2) hy2.symm (by omega) hL dL_law_237 ?_
    refine lv_aload_n hx hb dL_law_238 rfl (lv_at hl 3 rfl) ?_
    refine va_calli (vx_runSW (As := [.ref (q 0), .int y1, .int y2, .ref o]) (rest := []) S (z_L_setInflow1 ⟨rfl, rfl, Nat.le_of_ble_eq_true rfl, Nat.le_of_ble_eq_true rfl⟩ (x_X0_setInflow1 hlt hn h1)) (vx_cwSW 4 hts gL_law_L_setInflow rfl rfl rfl hdL_setInflow ⟨Nat.le_of_ble_eq_true rfl, Nat.le_of_ble_eq_true rfl⟩) (preSX hK hPx (xG.keep hG hS)) rfl rfl hl.1 rfl (lv_room (Nat.le_of_ble_eq_true rfl)) dL_law_239 ⟨hc.1, hc.2⟩) hS (fun _ _ h => h.elim) (fun _ h => h.elim) (fun r1 u1 t H locs ht hvm hw hB hz hk hS => ?_)
    have hPm := keepA hPm (wD_of hq' rfl) (fun x _ h => h) hk
    replace hw : r1 = nI 1 := hw
    subst hw
    replace hB : va_P D cls2 (cW q cI cD (nI n) rC fi fo fw fe ft fr fp fl ff ++ oW o o2 cJ cD f1 f2) t.heap := hB
    rw [ht] at hB
    have hPx := hB
    refine lv_istore (lv' := [(6, .int (nI 1)), (0, .ref b), (1, .ref (q 0)), (2, .ref (q' 0)), (3, .ref o), (4, .ref o2), (5, .int (nI i))]) hx hb dL_law_242 hl (by decide) rfl (fun ls hl => ?_)
    refine lv_aload_n hx hb dL_law_244 rfl (lv_at hl 3 rfl) ?_
    refine lv_aload_n hx hb dL_law_245 rfl (lv_at hl 1 rfl) ?_
    refine lv_iload hx hb dL_law_246 (lv_at hl 6 rfl) ?_
    refine lv_iconst (v := nI 1) hx hb dL_law_248 (by decide) ?_
    refine w_iadd hx hb dL_law_249 ?_
    refine w_scr hx hb hXs hbl hS (k := i + 1) (v := y1) hy1.symm (by omega) hL dL_law_250 ?_
    refine lv_aload_n hx hb dL_law_251 rfl (lv_at hl 1 rfl) ?_
    refine lv_iload hx hb dL_law_252 (lv_at hl 6 rfl) ?_
    refine lv_iconst (v := nI 2) hx hb dL_law_254 (by decide) ?_
    refine w_iadd hx hb dL_law_255 ?_
    refine w_scr hx hb hXs hbl hS (k := i + 2) (v := y2) hy2.symm (by omega) hL dL_law_256 ?_
    refine va_calli (va_runV (As := [.int y1, .int y2]) (rest := []) S (c_X1_setInflowx1 hn h1 hq') (cwV 2 hts gL_law_X1_setInflow rfl rfl rfl hdX1_setInflow ⟨Nat.le_of_ble_eq_true rfl, Nat.le_of_ble_eq_true rfl⟩) (preV hK2 hPm rfl rfl) rfl rfl hl.1 rfl (lv_room (Nat.le_of_ble_eq_true rfl)) dL_law_257 ⟨hc.1, hc.2⟩) hS (fun _ _ h => hA2 _ h) (fun _ h => hA2 _ h) (fun r2 u2 t H locs ht hvm hw2 hB hz hk hS => ?_)
    have hPx := keepA hPx (D12_of hd rfl) (fun x h1 h2 => hdis x h2 h1) hk
    replace hB : va_P D cls2 (mW q' cI cD (nI 1) (nI n) rC hh gi go gw ge gr gf gp gl gc) t.heap := hB
    rw [ht] at hB
    have hPm := hB
    refine lv_istore (lv' := [(7, .int r2), (6, .int (nI 1)), (0, .ref b), (1, .ref (q 0)), (2, .ref (q' 0)), (3, .ref o), (4, .ref o2), (5, .int (nI i))]) hx hb dL_law_260 hl (by decide) rfl (fun ls hl => ?_)
    refine lv_aload_n hx hb dL_law_262 rfl (lv_at hl 4 rfl) ?_
    refine vp_callSi (W.runV (As := []) (rest := []) S (c_X1_thrown) (cwV 0 hts gL_law_X1_thrown rfl rfl rfl hdX1_thrown ⟨Nat.le_of_ble_eq_true rfl, Nat.le_of_ble_eq_true rfl⟩) (preV hK2 hPm rfl rfl) rfl rfl hl.1 rfl (lv_room (Nat.le_of_ble_eq_true rfl)) dL_law_263 ⟨hc.1, hc.2⟩) (fun r3 er3 => ?_)
    subst er3
    refine lv_iload hx hb dL_law_266 (lv_at hl 1 rfl) ?_
    refine lv_icmp_eq (tgt := 273) hx hb dL_law_268 (by decide) (fun _ => ?_) (fun h => absurd rfl h)
    refine lv_iload hx hb dL_law_273 (lv_at hl 1 rfl) ?_
    refine lv_if_ne (tgt := 290) hx hb dL_law_275 (by decide) (fun h275_0 => ?_) (fun h275_0 => absurd h275_0 (by decide))
    refine lv_goto (tgt := 1355) hx hb dL_law_290 (by decide) ?_
    exact K n rC inf out w e _ _ _ hOK ⟨_, _, _, _, _, _, _, _, _, _, _, hPx, hI, hO, hW, hE, _, hT, hT2⟩ ⟨_, _, _, _, _, _, _, _, _, _, _, hPm, hI', hO', hW', hE'⟩ hS (lv_sub hl [2, 3, 4, 5, 6, 7] rfl)
set_option maxHeartbeats 8000000 in
set_option maxRecDepth 100000 in
theorem law_3 {p : Program} {l : Launch} {e9 : Env} {s : State} {m : MethodId} {below : List Frame} {meth : Method} {c : Code} {b L : Nat} {xs : Nat → Int32} {D : va_G} {q q' : Nat → Nat} {o o2 : Nat} {cI cD cJ : ClassId} {sa : Nat → Nat} {i cells slots : Nat} {Q : State → Prop} (C : LCx p l s m meth c b L xs D q q' o o2 cI cD cJ sa) (hi : i + 4 < L) (hc : cells + 1 ≤ 3098 ∧ slots + 6 ≤ 119182) (K : LK p l e9 s m below meth c b D q q' o o2 cI cD cJ i cells slots Q)
    {n : Nat} {rC : Int32} {inf out : Nat → Int32} {w : Nat → Nat → Int32} {e : Nat → Nat → UInt64} {H : Heap} {locs : List Loc} {ls : Array Slot} (hOK : OKs n inf out w e) (hX : LX D q o o2 cI cD cJ n rC inf out w e H) (hM : LM D q' cI cD n rC inf out w e H) (hS : va_S (fun x : Nat => s.heap.size ≤ x) s.heap H locs) (hl : lv_has ls 10 (lvL q q' b o o2 i)) : W p l e9 room_1 s m #[Value.ref b] below meth c H locs cells slots Q (F0 m 293 ls []) := by
  obtain ⟨S, ⟨hr, hlocks⟩, hK, ⟨hd, hq', hdis⟩, ⟨hXs, hbl, hL⟩, hA1, hA2, hG, hlt⟩ := C
  obtain ⟨hx, hb, hml, hown, hts⟩ := id S
  obtain ⟨fi, fo, fw, fe, ft, fr, fp, fl, ff, f1, f2, hPx, hI, hO, hW, hE, T, hT, hT2⟩ := hX
  obtain ⟨th, hh, gi, go, gw, ge, gr, gf, gp, gl, gc, hPm, hI', hO', hW', hE'⟩ := hM
  have hK2 : va_K D cls2 (tys2 cI cD) s := hK.sub [0, 1] rfl
  have hq := hd.1
  obtain ⟨hn, hbI, hbO, hbW, hgE⟩ := id hOK
  obtain ⟨y1, hy1⟩ : ∃ y, y = xs (i + 1) := ⟨_, rfl⟩
  obtain ⟨y2, hy2⟩ : ∃ y, y = xs (i + 2) := ⟨_, rfl⟩
  by_cases h1 : armB n y1 = true
  · obtain ⟨i0, hi0, rfl⟩ := arm_t hn h1
    by_cases h2 : wth y2 (nI 0) (nI 9999) = true
    · have hz0 := hi0
      refine lv_aload_n hx hb dL_law_293 rfl (lv_at hl 1 rfl) ?_
      refine lv_aload_n hx hb dL_law_294 rfl (lv_at hl 0 rfl) ?_
      refine lv_iload hx hb dL_law_295 (lv_at hl 5 rfl) ?_
      refine lv_iconst (v := nI 1) hx hb dL_law_297 (by decide) ?_
      refine w_iadd hx hb dL_law_298 ?_
      refine w_scr hx hb hXs hbl hS (k := i + 1) (v := nI i0) hy1.symm (by omega) hL dL_law_299 ?_
      refine lv_aload_n hx hb dL_law_300 rfl (lv_at hl 0 rfl) ?_
      refine lv_iload hx hb dL_law_301 (lv_at hl 5 rfl) ?_
      refine lv_iconst (v := nI 2) hx hb dL_law_303 (by decide) ?_
      refine w_iadd hx hb dL_law_304 ?_
      refine w_scr hx hb hXs hbl hS (k := i + 2) (v := y2) hy2.symm (by omega) hL dL_law_305 ?_
      refine lv_aload_n hx hb dL_law_306 rfl (lv_at hl 3 rfl) ?_
      refine va_calli (vx_runSW (As := [.ref (q 0), .int (nI i0), .int y2, .ref o]) (rest := []) S (k_L_setOutflow (c_X0_setOutflow hn hO hW hi0 (wth_t1 h2) (wth_t2 h2) hq) (fun _ => rfl) hd) (vx_cwSW 4 hts gL_law_L_setOutflow rfl rfl rfl hdL_setOutflow ⟨Nat.le_of_ble_eq_true rfl, Nat.le_of_ble_eq_true rfl⟩) (preSP hK hPx) rfl rfl hl.1 rfl (lv_room (Nat.le_of_ble_eq_true rfl)) dL_law_307 ⟨Nat.le_trans (Nat.le_succ _) hc.1, Nat.le_trans (Nat.le_add_right _ 6) hc.2⟩) hS (fun _ _ h => hA1 _ h) (fun _ h => hA1 _ h) (fun r1 u1 t H locs ht hvm hw hB hz hk hS => ?_)
      have hPm := keepA hPm (wD_of hq' rfl) hdis hk
      obtain ⟨hw0, hw⟩ := hw
      subst hw0
      replace hB : va_P D cls2 (cW q cI cD (nI n) (nI 0) fi u1.2.1 fw u1.2.2 ft fr fp fl ff ++ oW o o2 cJ cD (vp_updL f1 0 (Int32.toInt64 u1.1)) f2) t.heap := hB
      rw [ht] at hB
      have hPx := hB
      obtain ⟨hr1, hO, hE⟩ := hw
      rw [hr1] at hPx
      refine lv_istore (lv' := [(6, .int (nI 0)), (0, .ref b), (1, .ref (q 0)), (2, .ref (q' 0)), (3, .ref o), (4, .ref o2), (5, .int (nI i))]) hx hb dL_law_310 hl (by decide) rfl (fun ls hl => ?_)
      refine lv_aload_n hx hb dL_law_312 rfl (lv_at hl 3 rfl) ?_
      refine lv_aload_n hx hb dL_law_313 rfl (lv_at hl 1 rfl) ?_
      refine lv_iload hx hb dL_law_314 (lv_at hl 6 rfl) ?_
      refine lv_iconst (v := nI 1) hx hb dL_law_316 (by decide) ?_
      refine w_iadd hx hb dL_law_317 ?_
      refine w_scr hx hb hXs hbl hS (k := i + 1) (v := nI i0) hy1.symm (by omega) hL dL_law_318 ?_
      refine lv_aload_n hx hb dL_law_319 rfl (lv_at hl 1 rfl) ?_
      refine lv_iload hx hb dL_law_320 (lv_at hl 6 rfl) ?_
      refine lv_iconst (v := nI 2) hx hb dL_law_322 (by decide) ?_
      refine w_iadd hx hb dL_law_323 ?_
      refine w_scr hx hb hXs hbl hS (k := i + 2) (v := y2) hy2.symm (by omega) hL dL_law_324 ?_
      refine va_calli (va_runV (As := [.int (nI i0), .int y2]) (rest := []) S (c_X1_setOutflow hn hO' hW' hi0 h2 hq') (cwV 2 hts gL_law_X1_setOutflow rfl rfl rfl hdX1_setOutflow ⟨Nat.le_of_ble_eq_true rfl, Nat.le_of_ble_eq_true rfl⟩) (preV hK2 hPm rfl rfl) rfl rfl hl.1 rfl (lv_room (Nat.le_of_ble_eq_true rfl)) dL_law_325 ⟨Nat.le_trans (Nat.le_succ _) hc.1, Nat.le_trans (Nat.le_add_right _ 6) hc.2⟩) hS (fun _ _ h => hA2 _ h) (fun _ h => hA2 _ h) (fun r2 u2 t H locs ht hvm hw2 hB hz hk hS => ?_)
      have hPx := keepA hPx (D12_of hd rfl) (fun x h1 h2 => hdis x h2 h1) hk
      replace hB : va_P D cls2 (mW q' cI cD (nI 0) (nI n) (nI 0) hh gi u2.1 gw u2.2 gr gf gp gl gc) t.heap := hB
      rw [ht] at hB
      have hPm := hB
      obtain ⟨hr2, hO', hE'⟩ := hw2
      rw [hr2]
      refine lv_istore (lv' := [(7, .int (out i0)), (6, .int (nI 0)), (0, .ref b), (1, .ref (q 0)), (2, .ref (q' 0)), (3, .ref o), (4, .ref o2), (5, .int (nI i))]) hx hb dL_law_328 hl (by decide) rfl (fun ls hl => ?_)
      refine lv_aload_n hx hb dL_law_330 rfl (lv_at hl 4 rfl) ?_
      refine vp_callSi (W.runV (As := []) (rest := []) S (c_X1_thrown) (cwV 0 hts gL_law_X1_thrown rfl rfl rfl hdX1_thrown ⟨Nat.le_of_ble_eq_true rfl, Nat.le_of_ble_eq_true rfl⟩) (preV hK2 hPm rfl rfl) rfl rfl hl.1 rfl (lv_room (Nat.le_of_ble_eq_true rfl)) dL_law_331 ⟨Nat.le_trans (Nat.le_succ _) hc.1, Nat.le_trans (Nat.le_add_right _ 6) hc.2⟩) (fun r3 er3 => ?_)
      subst er3
      refine lv_iload hx hb dL_law_334 (lv_at hl 1 rfl) ?_
      refine lv_icmp_eq (tgt := 341) hx hb dL_law_336 (by decide) (fun _ => ?_) (fun h => absurd rfl h)
      refine lv_iload hx hb dL_law_341 (lv_at hl 1 rfl) ?_
      refine lv_if_ne (tgt := 358) hx hb dL_law_343 (by decide) (fun h343_0 => absurd (by decide) h343_0) (fun h343_0 => ?_)
      refine lv_aload_n hx hb dL_law_346 rfl (lv_at hl 5 rfl) ?_
      refine lv_iconst (v := nI 0) hx hb dL_law_347 (by decide) ?_
      refine w_lald hx hb hK hPx 10 2 rfl rfl (j := 0) (v := Int32.toInt64 (out i0)) (updL_self _ _ _) (by decide) (by decide) dL_law_348 ?_
      refine lv_iload hx hb dL_law_349 (lv_at hl 0 rfl) ?_
      refine lv_i2l hx hb dL_law_351 rfl ?_
      refine w_lcmp0 hx hb dL_law_352 ?_
      refine lv_if_eq (tgt := 358) hx hb dL_law_353 (by decide) (fun h353_1 => ?_) (fun h353_1 => absurd (by decide) h353_1)
      refine lv_goto (tgt := 1355) hx hb dL_law_358 (by decide) ?_
      refine W.widen (k := cells + 1) (n := slots + 6) (Nat.le_succ _) (Nat.le_add_right _ 6) ?_
      exact K n (nI 0) inf (upd out i0 y2) w (lay w) _ _ _ ⟨hn, hbI, BD_upd hbO (wth_bd (by decide) h2), hbW, GE_lay hbW⟩ ⟨_, _, _, _, _, _, _, _, _, _, _, hPx, hI, hO, hW, hE, _, hT, hT2⟩ ⟨_, _, _, _, _, _, _, _, _, _, _, hPm, hI', hO', hW', hE'⟩ hS (lv_sub hl [2, 3, 4, 5, 6, 7] rfl)
    · replace h2 := Bool.not_eq_true _ |>.mp h2
      refine lv_aload_n hx hb dL_law_293 rfl (lv_at hl 1 rfl) ?_
      refine lv_aload_n hx hb dL_law_294 rfl (lv_at hl 0 rfl) ?_
      refine lv_iload hx hb dL_law_295 (lv_at hl 5 rfl) ?_
      refine lv_iconst (v := nI 1) hx hb dL_law_297 (by decide) ?_
      refine w_iadd hx hb dL_law_298 ?_
      refine w_scr hx hb hXs hbl hS (k := i + 1) (v := nI i0) hy1.symm (by omega) hL dL_law_299 ?_
      refine lv_aload_n hx hb dL_law_300 rfl (lv_at hl 0 rfl) ?_
      refine lv_iload hx hb dL_law_301 (lv_at hl 5 rfl) ?_
      refine lv_iconst (v := nI 2) hx hb dL_law_303 (by decide) ?_
      refine w_iadd hx hb dL_law_304 ?_
      refine w_scr hx hb hXs hbl hS (k := i + 2) (v := y2) hy2.symm (by omega) hL dL_law_305 ?_
      refine lv_aload_n hx hb dL_law_306 rfl (lv_at hl 3 rfl) ?_
      refine va_calli (vx_runSW (As := [.ref (q 0), .int (nI i0), .int y2, .ref o]) (rest := []) S (z_L_setOutflow2 ⟨rfl, rfl, Nat.le_of_ble_eq_true rfl, Nat.le_of_ble_eq_true rfl⟩ (x_X0_setOutflow2 hlt hn hi0 h2)) (vx_cwSW 4 hts gL_law_L_setOutflow rfl rfl rfl hdL_setOutflow ⟨Nat.le_of_ble_eq_true rfl, Nat.le_of_ble_eq_true rfl⟩) (preSX hK hPx (xG.keep hG hS)) rfl rfl hl.1 rfl (lv_room (Nat.le_of_ble_eq_true rfl)) dL_law_307 ⟨hc.1, hc.2⟩) hS (fun _ _ h => h.elim) (fun _ h => h.elim) (fun r1 u1 t H locs ht hvm hw hB hz hk hS => ?_)
      have hPm := keepA hPm (wD_of hq' rfl) (fun x _ h => h) hk
      replace hw : r1 = nI 2 := hw
      subst hw
      replace hB : va_P D cls2 (cW q cI cD (nI n) rC fi fo fw fe ft fr fp fl ff ++ oW o o2 cJ cD f1 f2) t.heap := hB
      rw [ht] at hB
      have hPx := hB
      refine lv_istore (lv' := [(6, .int (nI 2)), (0, .ref b), (1, .ref (q 0)), (2, .ref (q' 0)), (3, .ref o), (4, .ref o2), (5, .int (nI i))]) hx hb dL_law_310 hl (by decide) rfl (fun ls hl => ?_)
      refine lv_aload_n hx hb dL_law_312 rfl (lv_at hl 3 rfl) ?_
      refine lv_aload_n hx hb dL_law_313 rfl (lv_at hl 1 rfl) ?_
      refine lv_iload hx hb dL_law_314 (lv_at hl 6 rfl) ?_
      refine lv_iconst (v := nI 1) hx hb dL_law_316 (by decide) ?_
      refine w_iadd hx hb dL_law_317 ?_
      refine w_scr hx hb hXs hbl hS (k := i + 1) (v := nI i0) hy1.symm (by omega) hL dL_law_318 ?_
      refine lv_aload_n hx hb dL_law_319 rfl (lv_at hl 1 rfl) ?_
      refine lv_iload hx hb dL_law_320 (lv_at hl 6 rfl) ?_
      refine lv_iconst (v := nI 2) hx hb dL_law_322 (by decide) ?_
      refine w_iadd hx hb dL_law_323 ?_
      refine w_scr hx hb hXs hbl hS (k := i + 2) (v := y2) hy2.symm (by omega) hL dL_law_324 ?_
      refine va_calli (va_runV (As := [.int (nI i0), .int y2]) (rest := []) S (c_X1_setOutflowx2 hn hi0 h2 hq') (cwV 2 hts gL_law_X1_setOutflow rfl rfl rfl hdX1_setOutflow ⟨Nat.le_of_ble_eq_true rfl, Nat.le_of_ble_eq_true rfl⟩) (preV hK2 hPm rfl rfl) rfl rfl hl.1 rfl (lv_room (Nat.le_of_ble_eq_true rfl)) dL_law_325 ⟨hc.1, hc.2⟩) hS (fun _ _ h => hA2 _ h) (fun _ h => hA2 _ h) (fun r2 u2 t H locs ht hvm hw2 hB hz hk hS => ?_)
      have hPx := keepA hPx (D12_of hd rfl) (fun x h1 h2 => hdis x h2 h1) hk
      replace hB : va_P D cls2 (mW q' cI cD (nI 2) (nI n) rC hh gi go gw ge gr gf gp gl gc) t.heap := hB
      rw [ht] at hB
      have hPm := hB
      refine lv_istore (lv' := [(7, .int r2), (6, .int (nI 2)), (0, .ref b), (1, .ref (q 0)), (2, .ref (q' 0)), (3, .ref o), (4, .ref o2), (5, .int (nI i))]) hx hb dL_law_328 hl (by decide) rfl (fun ls hl => ?_)
      refine lv_aload_n hx hb dL_law_330 rfl (lv_at hl 4 rfl) ?_
      refine vp_callSi (W.runV (As := []) (rest := []) S (c_X1_thrown) (cwV 0 hts gL_law_X1_thrown rfl rfl rfl hdX1_thrown ⟨Nat.le_of_ble_eq_true rfl, Nat.le_of_ble_eq_true rfl⟩) (preV hK2 hPm rfl rfl) rfl rfl hl.1 rfl (lv_room (Nat.le_of_ble_eq_true rfl)) dL_law_331 ⟨hc.1, hc.2⟩) (fun r3 er3 => ?_)
      subst er3
      refine lv_iload hx hb dL_law_334 (lv_at hl 1 rfl) ?_
      refine lv_icmp_eq (tgt := 341) hx hb dL_law_336 (by decide) (fun _ => ?_) (fun h => absurd rfl h)
      refine lv_iload hx hb dL_law_341 (lv_at hl 1 rfl) ?_
      refine lv_if_ne (tgt := 358) hx hb dL_law_343 (by decide) (fun h343_0 => ?_) (fun h343_0 => absurd h343_0 (by decide))
      refine lv_goto (tgt := 1355) hx hb dL_law_358 (by decide) ?_
      exact K n rC inf out w e _ _ _ hOK ⟨_, _, _, _, _, _, _, _, _, _, _, hPx, hI, hO, hW, hE, _, hT, hT2⟩ ⟨_, _, _, _, _, _, _, _, _, _, _, hPm, hI', hO', hW', hE'⟩ hS (lv_sub hl [2, 3, 4, 5, 6, 7] rfl)
  · replace h1 := Bool.not_eq_true _ |>.mp h1
    refine lv_aload_n hx hb dL_law_293 rfl (lv_at hl 1 rfl) ?_
    refine lv_aload_n hx hb dL_law_294 rfl (lv_at hl 0 rfl) ?_
    refine lv_iload hx hb dL_law_295 (lv_at hl 5 rfl) ?_
    refine lv_iconst (v := nI 1) hx hb dL_law_297 (by decide) ?_
    refine w_iadd hx hb dL_law_298 ?_
    refine w_scr hx hb hXs hbl hS (k := i + 1) (v := y1) hy1.symm (by omega) hL dL_law_299 ?_
    refine lv_aload_n hx hb dL_law_300 rfl (lv_at hl 0 rfl) ?_
    refine lv_iload hx hb dL_law_301 (lv_at hl 5 rfl) ?_
    refine lv_iconst (v := nI 2) hx hb dL_law_303 (by decide) ?_
    refine w_iadd hx hb dL_law_304 ?_
    refine w_scr hx hb hXs hbl hS (k := i + 2) (v := y2) hy2.symm (by omega) hL dL_law_305 ?_
    refine lv_aload_n hx hb dL_law_306 rfl (lv_at hl 3 rfl) ?_
    refine va_calli (vx_runSW (As := [.ref (q 0), .int y1, .int y2, .ref o]) (rest := []) S (z_L_setOutflow1 ⟨rfl, rfl, Nat.le_of_ble_eq_true rfl, Nat.le_of_ble_eq_true rfl⟩ (x_X0_setOutflow1 hlt hn h1)) (vx_cwSW 4 hts gL_law_L_setOutflow rfl rfl rfl hdL_setOutflow ⟨Nat.le_of_ble_eq_true rfl, Nat.le_of_ble_eq_true rfl⟩) (preSX hK hPx (xG.keep hG hS)) rfl rfl hl.1 rfl (lv_room (Nat.le_of_ble_eq_true rfl)) dL_law_307 ⟨hc.1, hc.2⟩) hS (fun _ _ h => h.elim) (fun _ h => h.elim) (fun r1 u1 t H locs ht hvm hw hB hz hk hS => ?_)
    have hPm := keepA hPm (wD_of hq' rfl) (fun x _ h => h) hk
    replace hw : r1 = nI 1 := hw
    subst hw
    replace hB : va_P D cls2 (cW q cI cD (nI n) rC fi fo fw fe ft fr fp fl ff ++ oW o o2 cJ cD f1 f2) t.heap := hB
    rw [ht] at hB
    have hPx := hB
    refine lv_istore (lv' := [(6, .int (nI 1)), (0, .ref b), (1, .ref (q 0)), (2, .ref (q' 0)), (3, .ref o), (4, .ref o2), (5, .int (nI i))]) hx hb dL_law_310 hl (by decide) rfl (fun ls hl => ?_)
    refine lv_aload_n hx hb dL_law_312 rfl (lv_at hl 3 rfl) ?_
    refine lv_aload_n hx hb dL_law_313 rfl (lv_at hl 1 rfl) ?_
    refine lv_iload hx hb dL_law_314 (lv_at hl 6 rfl) ?_
    refine lv_iconst (v := nI 1) hx hb dL_law_316 (by decide) ?_
    refine w_iadd hx hb dL_law_317 ?_
    refine w_scr hx hb hXs hbl hS (k := i + 1) (v := y1) hy1.symm (by omega) hL dL_law_318 ?_
    refine lv_aload_n hx hb dL_law_319 rfl (lv_at hl 1 rfl) ?_
    refine lv_iload hx hb dL_law_320 (lv_at hl 6 rfl) ?_
    refine lv_iconst (v := nI 2) hx hb dL_law_322 (by decide) ?_
    refine w_iadd hx hb dL_law_323 ?_
    refine w_scr hx hb hXs hbl hS (k := i + 2) (v := y2) hy2.symm (by omega) hL dL_law_324 ?_
    refine va_calli (va_runV (As := [.int y1, .int y2]) (rest := []) S (c_X1_setOutflowx1 hn h1 hq') (cwV 2 hts gL_law_X1_setOutflow rfl rfl rfl hdX1_setOutflow ⟨Nat.le_of_ble_eq_true rfl, Nat.le_of_ble_eq_true rfl⟩) (preV hK2 hPm rfl rfl) rfl rfl hl.1 rfl (lv_room (Nat.le_of_ble_eq_true rfl)) dL_law_325 ⟨hc.1, hc.2⟩) hS (fun _ _ h => hA2 _ h) (fun _ h => hA2 _ h) (fun r2 u2 t H locs ht hvm hw2 hB hz hk hS => ?_)
    have hPx := keepA hPx (D12_of hd rfl) (fun x h1 h2 => hdis x h2 h1) hk
    replace hB : va_P D cls2 (mW q' cI cD (nI 1) (nI n) rC hh gi go gw ge gr gf gp gl gc) t.heap := hB
    rw [ht] at hB
    have hPm := hB
    refine lv_istore (lv' := [(7, .int r2), (6, .int (nI 1)), (0, .ref b), (1, .ref (q 0)), (2, .ref (q' 0)), (3, .ref o), (4, .ref o2), (5, .int (nI i))]) hx hb dL_law_328 hl (by decide) rfl (fun ls hl => ?_)
    refine lv_aload_n hx hb dL_law_330 rfl (lv_at hl 4 rfl) ?_
    refine vp_callSi (W.runV (As := []) (rest := []) S (c_X1_thrown) (cwV 0 hts gL_law_X1_thrown rfl rfl rfl hdX1_thrown ⟨Nat.le_of_ble_eq_true rfl, Nat.le_of_ble_eq_true rfl⟩) (preV hK2 hPm rfl rfl) rfl rfl hl.1 rfl (lv_room (Nat.le_of_ble_eq_true rfl)) dL_law_331 ⟨hc.1, hc.2⟩) (fun r3 er3 => ?_)
    subst er3
    refine lv_iload hx hb dL_law_334 (lv_at hl 1 rfl) ?_
    refine lv_icmp_eq (tgt := 341) hx hb dL_law_336 (by decide) (fun _ => ?_) (fun h => absurd rfl h)
    refine lv_iload hx hb dL_law_341 (lv_at hl 1 rfl) ?_
    refine lv_if_ne (tgt := 358) hx hb dL_law_343 (by decide) (fun h343_0 => ?_) (fun h343_0 => absurd h343_0 (by decide))
    refine lv_goto (tgt := 1355) hx hb dL_law_358 (by decide) ?_
    exact K n rC inf out w e _ _ _ hOK ⟨_, _, _, _, _, _, _, _, _, _, _, hPx, hI, hO, hW, hE, _, hT, hT2⟩ ⟨_, _, _, _, _, _, _, _, _, _, _, hPm, hI', hO', hW', hE'⟩ hS (lv_sub hl [2, 3, 4, 5, 6, 7] rfl)
set_option maxHeartbeats 8000000 in
set_option maxRecDepth 100000 in
theorem law_4 {p : Program} {l : Launch} {e9 : Env} {s : State} {m : MethodId} {below : List Frame} {meth : Method} {c : Code} {b L : Nat} {xs : Nat → Int32} {D : va_G} {q q' : Nat → Nat} {o o2 : Nat} {cI cD cJ : ClassId} {sa : Nat → Nat} {i cells slots : Nat} {Q : State → Prop} (C : LCx p l s m meth c b L xs D q q' o o2 cI cD cJ sa) (hi : i + 4 < L) (hc : cells + 1 ≤ 3098 ∧ slots + 6 ≤ 119182) (K : LK p l e9 s m below meth c b D q q' o o2 cI cD cJ i cells slots Q)
    {n : Nat} {rC : Int32} {inf out : Nat → Int32} {w : Nat → Nat → Int32} {e : Nat → Nat → UInt64} {H : Heap} {locs : List Loc} {ls : Array Slot} (hOK : OKs n inf out w e) (hX : LX D q o o2 cI cD cJ n rC inf out w e H) (hM : LM D q' cI cD n rC inf out w e H) (hS : va_S (fun x : Nat => s.heap.size ≤ x) s.heap H locs) (hl : lv_has ls 10 (lvL q q' b o o2 i)) : W p l e9 room_1 s m #[Value.ref b] below meth c H locs cells slots Q (F0 m 361 ls []) := by
  obtain ⟨S, ⟨hr, hlocks⟩, hK, ⟨hd, hq', hdis⟩, ⟨hXs, hbl, hL⟩, hA1, hA2, hG, hlt⟩ := C
  obtain ⟨hx, hb, hml, hown, hts⟩ := id S
  obtain ⟨fi, fo, fw, fe, ft, fr, fp, fl, ff, f1, f2, hPx, hI, hO, hW, hE, T, hT, hT2⟩ := hX
  obtain ⟨th, hh, gi, go, gw, ge, gr, gf, gp, gl, gc, hPm, hI', hO', hW', hE'⟩ := hM
  have hK2 : va_K D cls2 (tys2 cI cD) s := hK.sub [0, 1] rfl
  have hq := hd.1
  obtain ⟨hn, hbI, hbO, hbW, hgE⟩ := id hOK
  obtain ⟨y1, hy1⟩ : ∃ y, y = xs (i + 1) := ⟨_, rfl⟩
  obtain ⟨y2, hy2⟩ : ∃ y, y = xs (i + 2) := ⟨_, rfl⟩
  obtain ⟨y3, hy3⟩ : ∃ y, y = xs (i + 3) := ⟨_, rfl⟩
  by_cases h1 : armB n y1 = true
  · obtain ⟨i0, hi0, rfl⟩ := arm_t hn h1
    by_cases h2 : armB n y2 = true
    · obtain ⟨k0, hk0, rfl⟩ := arm_t hn h2
      by_cases h3 : wth y3 (nI 0) (nI 99) = true
      · have hz0 := hi0
        refine lv_aload_n hx hb dL_law_361 rfl (lv_at hl 1 rfl) ?_
        refine lv_aload_n hx hb dL_law_362 rfl (lv_at hl 0 rfl) ?_
        refine lv_iload hx hb dL_law_363 (lv_at hl 5 rfl) ?_
        refine lv_iconst (v := nI 1) hx hb dL_law_365 (by decide) ?_
        refine w_iadd hx hb dL_law_366 ?_
        refine w_scr hx hb hXs hbl hS (k := i + 1) (v := nI i0) hy1.symm (by omega) hL dL_law_367 ?_
        refine lv_aload_n hx hb dL_law_368 rfl (lv_at hl 0 rfl) ?_
        refine lv_iload hx hb dL_law_369 (lv_at hl 5 rfl) ?_
        refine lv_iconst (v := nI 2) hx hb dL_law_371 (by decide) ?_
        refine w_iadd hx hb dL_law_372 ?_
        refine w_scr hx hb hXs hbl hS (k := i + 2) (v := nI k0) hy2.symm (by omega) hL dL_law_373 ?_
        refine lv_aload_n hx hb dL_law_374 rfl (lv_at hl 0 rfl) ?_
        refine lv_iload hx hb dL_law_375 (lv_at hl 5 rfl) ?_
        refine lv_iconst (v := nI 3) hx hb dL_law_377 (by decide) ?_
        refine w_iadd hx hb dL_law_378 ?_
        refine w_scr hx hb hXs hbl hS (k := i + 3) (v := y3) hy3.symm (by omega) hL dL_law_379 ?_
        refine lv_aload_n hx hb dL_law_380 rfl (lv_at hl 3 rfl) ?_
        refine va_calli (vx_runSW (As := [.ref (q 0), .int (nI i0), .int (nI k0), .int y3, .ref o]) (rest := []) S (k_L_setWeight (c_X0_setWeight hn hW hT hi0 hk0 (wth_t1 h3) (wth_t2 h3) hq) (fun _ => rfl) hd) (vx_cwSW 5 hts gL_law_L_setWeight rfl rfl rfl hdL_setWeight ⟨Nat.le_of_ble_eq_true rfl, Nat.le_of_ble_eq_true rfl⟩) (preSP hK hPx) rfl rfl hl.1 rfl (lv_room (Nat.le_of_ble_eq_true rfl)) dL_law_381 ⟨Nat.le_trans (Nat.le_succ _) hc.1, Nat.le_trans (Nat.le_add_right _ 6) hc.2⟩) hS (fun _ _ h => hA1 _ h) (fun _ h => hA1 _ h) (fun r1 u1 t H locs ht hvm hw hB hz hk hS => ?_)
        have hPm := keepA hPm (wD_of hq' rfl) hdis hk
        obtain ⟨hw0, hw⟩ := hw
        subst hw0
        replace hB : va_P D cls2 (cW q cI cD (nI n) (nI 0) fi fo u1.2.1 u1.2.2.1 u1.2.2.2 fr fp fl ff ++ oW o o2 cJ cD (vp_updL f1 0 (Int32.toInt64 u1.1)) f2) t.heap := hB
        rw [ht] at hB
        have hPx := hB
        obtain ⟨hr1, hW, hE, T9, hT, hT8⟩ := hw
        rw [hr1] at hPx
        have hT2 := bit_upd hn.2 hT8 hT2
        refine lv_istore (lv' := [(6, .int (nI 0)), (0, .ref b), (1, .ref (q 0)), (2, .ref (q' 0)), (3, .ref o), (4, .ref o2), (5, .int (nI i))]) hx hb dL_law_384 hl (by decide) rfl (fun ls hl => ?_)
        refine lv_aload_n hx hb dL_law_386 rfl (lv_at hl 3 rfl) ?_
        refine lv_aload_n hx hb dL_law_387 rfl (lv_at hl 1 rfl) ?_
        refine lv_iload hx hb dL_law_388 (lv_at hl 6 rfl) ?_
        refine lv_iconst (v := nI 1) hx hb dL_law_390 (by decide) ?_
        refine w_iadd hx hb dL_law_391 ?_
        refine w_scr hx hb hXs hbl hS (k := i + 1) (v := nI i0) hy1.symm (by omega) hL dL_law_392 ?_
        refine lv_aload_n hx hb dL_law_393 rfl (lv_at hl 1 rfl) ?_
        refine lv_iload hx hb dL_law_394 (lv_at hl 6 rfl) ?_
        refine lv_iconst (v := nI 2) hx hb dL_law_396 (by decide) ?_
        refine w_iadd hx hb dL_law_397 ?_
        refine w_scr hx hb hXs hbl hS (k := i + 2) (v := nI k0) hy2.symm (by omega) hL dL_law_398 ?_
        refine lv_aload_n hx hb dL_law_399 rfl (lv_at hl 1 rfl) ?_
        refine lv_iload hx hb dL_law_400 (lv_at hl 6 rfl) ?_
        refine lv_iconst (v := nI 3) hx hb dL_law_402 (by decide) ?_
        refine w_iadd hx hb dL_law_403 ?_
        refine w_scr hx hb hXs hbl hS (k := i + 3) (v := y3) hy3.symm (by omega) hL dL_law_404 ?_
        refine va_calli (va_runV (As := [.int (nI i0), .int (nI k0), .int y3]) (rest := []) S (c_X1_setWeight hn hW' hi0 hk0 h3 hq') (cwV 3 hts gL_law_X1_setWeight rfl rfl rfl hdX1_setWeight ⟨Nat.le_of_ble_eq_true rfl, Nat.le_of_ble_eq_true rfl⟩) (preV hK2 hPm rfl rfl) rfl rfl hl.1 rfl (lv_room (Nat.le_of_ble_eq_true rfl)) dL_law_405 ⟨Nat.le_trans (Nat.le_succ _) hc.1, Nat.le_trans (Nat.le_add_right _ 6) hc.2⟩) hS (fun _ _ h => hA2 _ h) (fun _ h => hA2 _ h) (fun r2 u2 t H locs ht hvm hw2 hB hz hk hS => ?_)
        have hPx := keepA hPx (D12_of hd rfl) (fun x h1 h2 => hdis x h2 h1) hk
        replace hB : va_P D cls2 (mW q' cI cD (nI 0) (nI n) (nI 0) hh gi go u2.1 u2.2 gr gf gp gl gc) t.heap := hB
        rw [ht] at hB
        have hPm := hB
        obtain ⟨hr2, hW', hE'⟩ := hw2
        rw [hr2]
        refine lv_istore (lv' := [(7, .int (w i0 k0)), (6, .int (nI 0)), (0, .ref b), (1, .ref (q 0)), (2, .ref (q' 0)), (3, .ref o), (4, .ref o2), (5, .int (nI i))]) hx hb dL_law_408 hl (by decide) rfl (fun ls hl => ?_)
        refine lv_aload_n hx hb dL_law_410 rfl (lv_at hl 4 rfl) ?_
        refine vp_callSi (W.runV (As := []) (rest := []) S (c_X1_thrown) (cwV 0 hts gL_law_X1_thrown rfl rfl rfl hdX1_thrown ⟨Nat.le_of_ble_eq_true rfl, Nat.le_of_ble_eq_true rfl⟩) (preV hK2 hPm rfl rfl) rfl rfl hl.1 rfl (lv_room (Nat.le_of_ble_eq_true rfl)) dL_law_411 ⟨Nat.le_trans (Nat.le_succ _) hc.1, Nat.le_trans (Nat.le_add_right _ 6) hc.2⟩) (fun r3 er3 => ?_)
        subst er3
        refine lv_iload hx hb dL_law_414 (lv_at hl 1 rfl) ?_
        refine lv_icmp_eq (tgt := 421) hx hb dL_law_416 (by decide) (fun _ => ?_) (fun h => absurd rfl h)
        refine lv_iload hx hb dL_law_421 (lv_at hl 1 rfl) ?_
        refine lv_if_ne (tgt := 438) hx hb dL_law_423 (by decide) (fun h423_0 => absurd (by decide) h423_0) (fun h423_0 => ?_)
        refine lv_aload_n hx hb dL_law_426 rfl (lv_at hl 5 rfl) ?_
        refine lv_iconst (v := nI 0) hx hb dL_law_427 (by decide) ?_
        refine w_lald hx hb hK hPx 10 2 rfl rfl (j := 0) (v := Int32.toInt64 (w i0 k0)) (updL_self _ _ _) (by decide) (by decide) dL_law_428 ?_
        refine lv_iload hx hb dL_law_429 (lv_at hl 0 rfl) ?_
        refine lv_i2l hx hb dL_law_431 rfl ?_
        refine w_lcmp0 hx hb dL_law_432 ?_
        refine lv_if_eq (tgt := 438) hx hb dL_law_433 (by decide) (fun h433_1 => ?_) (fun h433_1 => absurd (by decide) h433_1)
        refine lv_goto (tgt := 1355) hx hb dL_law_438 (by decide) ?_
        refine W.widen (k := cells + 1) (n := slots + 6) (Nat.le_succ _) (Nat.le_add_right _ 6) ?_
        exact K n (nI 0) inf out (upd2 w i0 k0 y3) (lay (upd2 w i0 k0 y3)) _ _ _ ⟨hn, hbI, hbO, BW_upd hbW (wth_bd (by decide) h3), GE_lay (BW_upd hbW (wth_bd (by decide) h3))⟩ ⟨_, _, _, _, _, _, _, _, _, _, _, hPx, hI, hO, hW, hE, _, hT, hT2⟩ ⟨_, _, _, _, _, _, _, _, _, _, _, hPm, hI', hO', hW', hE'⟩ hS (lv_sub hl [2, 3, 4, 5, 6, 7] rfl)
      · replace h3 := Bool.not_eq_true _ |>.mp h3
        refine lv_aload_n hx hb dL_law_361 rfl (lv_at hl 1 rfl) ?_
        refine lv_aload_n hx hb dL_law_362 rfl (lv_at hl 0 rfl) ?_
        refine lv_iload hx hb dL_law_363 (lv_at hl 5 rfl) ?_
        refine lv_iconst (v := nI 1) hx hb dL_law_365 (by decide) ?_
        refine w_iadd hx hb dL_law_366 ?_
        refine w_scr hx hb hXs hbl hS (k := i + 1) (v := nI i0) hy1.symm (by omega) hL dL_law_367 ?_
        refine lv_aload_n hx hb dL_law_368 rfl (lv_at hl 0 rfl) ?_
        refine lv_iload hx hb dL_law_369 (lv_at hl 5 rfl) ?_
        refine lv_iconst (v := nI 2) hx hb dL_law_371 (by decide) ?_
        refine w_iadd hx hb dL_law_372 ?_
        refine w_scr hx hb hXs hbl hS (k := i + 2) (v := nI k0) hy2.symm (by omega) hL dL_law_373 ?_
        refine lv_aload_n hx hb dL_law_374 rfl (lv_at hl 0 rfl) ?_
        refine lv_iload hx hb dL_law_375 (lv_at hl 5 rfl) ?_
        refine lv_iconst (v := nI 3) hx hb dL_law_377 (by decide) ?_
        refine w_iadd hx hb dL_law_378 ?_
        refine w_scr hx hb hXs hbl hS (k := i + 3) (v := y3) hy3.symm (by omega) hL dL_law_379 ?_
        refine lv_aload_n hx hb dL_law_380 rfl (lv_at hl 3 rfl) ?_
        refine va_calli (vx_runSW (As := [.ref (q 0), .int (nI i0), .int (nI k0), .int y3, .ref o]) (rest := []) S (z_L_setWeight2 ⟨rfl, rfl, Nat.le_of_ble_eq_true rfl, Nat.le_of_ble_eq_true rfl⟩ (x_X0_setWeight3 hlt hn hi0 hk0 h3)) (vx_cwSW 5 hts gL_law_L_setWeight rfl rfl rfl hdL_setWeight ⟨Nat.le_of_ble_eq_true rfl, Nat.le_of_ble_eq_true rfl⟩) (preSX hK hPx (xG.keep hG hS)) rfl rfl hl.1 rfl (lv_room (Nat.le_of_ble_eq_true rfl)) dL_law_381 ⟨hc.1, hc.2⟩) hS (fun _ _ h => h.elim) (fun _ h => h.elim) (fun r1 u1 t H locs ht hvm hw hB hz hk hS => ?_)
        have hPm := keepA hPm (wD_of hq' rfl) (fun x _ h => h) hk
        replace hw : r1 = nI 2 := hw
        subst hw
        replace hB : va_P D cls2 (cW q cI cD (nI n) rC fi fo fw fe ft fr fp fl ff ++ oW o o2 cJ cD f1 f2) t.heap := hB
        rw [ht] at hB
        have hPx := hB
        refine lv_istore (lv' := [(6, .int (nI 2)), (0, .ref b), (1, .ref (q 0)), (2, .ref (q' 0)), (3, .ref o), (4, .ref o2), (5, .int (nI i))]) hx hb dL_law_384 hl (by decide) rfl (fun ls hl => ?_)
        refine lv_aload_n hx hb dL_law_386 rfl (lv_at hl 3 rfl) ?_
        refine lv_aload_n hx hb dL_law_387 rfl (lv_at hl 1 rfl) ?_
        refine lv_iload hx hb dL_law_388 (lv_at hl 6 rfl) ?_
        refine lv_iconst (v := nI 1) hx hb dL_law_390 (by decide) ?_
        refine w_iadd hx hb dL_law_391 ?_
        refine w_scr hx hb hXs hbl hS (k := i + 1) (v := nI i0) hy1.symm (by omega) hL dL_law_392 ?_
        refine lv_aload_n hx hb dL_law_393 rfl (lv_at hl 1 rfl) ?_
        refine lv_iload hx hb dL_law_394 (lv_at hl 6 rfl) ?_
        refine lv_iconst (v := nI 2) hx hb dL_law_396 (by decide) ?_
        refine w_iadd hx hb dL_law_397 ?_
        refine w_scr hx hb hXs hbl hS (k := i + 2) (v := nI k0) hy2.symm (by omega) hL dL_law_398 ?_
        refine lv_aload_n hx hb dL_law_399 rfl (lv_at hl 1 rfl) ?_
        refine lv_iload hx hb dL_law_400 (lv_at hl 6 rfl) ?_
        refine lv_iconst (v := nI 3) hx hb dL_law_402 (by decide) ?_
        refine w_iadd hx hb dL_law_403 ?_
        refine w_scr hx hb hXs hbl hS (k := i + 3) (v := y3) hy3.symm (by omega) hL dL_law_404 ?_
        refine va_calli (va_runV (As := [.int (nI i0), .int (nI k0), .int y3]) (rest := []) S (c_X1_setWeightx3 hn hi0 hk0 h3 hq') (cwV 3 hts gL_law_X1_setWeight rfl rfl rfl hdX1_setWeight ⟨Nat.le_of_ble_eq_true rfl, Nat.le_of_ble_eq_true rfl⟩) (preV hK2 hPm rfl rfl) rfl rfl hl.1 rfl (lv_room (Nat.le_of_ble_eq_true rfl)) dL_law_405 ⟨hc.1, hc.2⟩) hS (fun _ _ h => hA2 _ h) (fun _ h => hA2 _ h) (fun r2 u2 t H locs ht hvm hw2 hB hz hk hS => ?_)
        have hPx := keepA hPx (D12_of hd rfl) (fun x h1 h2 => hdis x h2 h1) hk
        replace hB : va_P D cls2 (mW q' cI cD (nI 2) (nI n) rC hh gi go gw ge gr gf gp gl gc) t.heap := hB
        rw [ht] at hB
        have hPm := hB
        refine lv_istore (lv' := [(7, .int r2), (6, .int (nI 2)), (0, .ref b), (1, .ref (q 0)), (2, .ref (q' 0)), (3, .ref o), (4, .ref o2), (5, .int (nI i))]) hx hb dL_law_408 hl (by decide) rfl (fun ls hl => ?_)
        refine lv_aload_n hx hb dL_law_410 rfl (lv_at hl 4 rfl) ?_
        refine vp_callSi (W.runV (As := []) (rest := []) S (c_X1_thrown) (cwV 0 hts gL_law_X1_thrown rfl rfl rfl hdX1_thrown ⟨Nat.le_of_ble_eq_true rfl, Nat.le_of_ble_eq_true rfl⟩) (preV hK2 hPm rfl rfl) rfl rfl hl.1 rfl (lv_room (Nat.le_of_ble_eq_true rfl)) dL_law_411 ⟨hc.1, hc.2⟩) (fun r3 er3 => ?_)
        subst er3
        refine lv_iload hx hb dL_law_414 (lv_at hl 1 rfl) ?_
        refine lv_icmp_eq (tgt := 421) hx hb dL_law_416 (by decide) (fun _ => ?_) (fun h => absurd rfl h)
        refine lv_iload hx hb dL_law_421 (lv_at hl 1 rfl) ?_
        refine lv_if_ne (tgt := 438) hx hb dL_law_423 (by decide) (fun h423_0 => ?_) (fun h423_0 => absurd h423_0 (by decide))
        refine lv_goto (tgt := 1355) hx hb dL_law_438 (by decide) ?_
        exact K n rC inf out w e _ _ _ hOK ⟨_, _, _, _, _, _, _, _, _, _, _, hPx, hI, hO, hW, hE, _, hT, hT2⟩ ⟨_, _, _, _, _, _, _, _, _, _, _, hPm, hI', hO', hW', hE'⟩ hS (lv_sub hl [2, 3, 4, 5, 6, 7] rfl)
    · replace h2 := Bool.not_eq_true _ |>.mp h2
      refine lv_aload_n hx hb dL_law_361 rfl (lv_at hl 1 rfl) ?_
      refine lv_aload_n hx hb dL_law_362 rfl (lv_at hl 0 rfl) ?_
      refine lv_iload hx hb dL_law_363 (lv_at hl 5 rfl) ?_
      refine lv_iconst (v := nI 1) hx hb dL_law_365 (by decide) ?_
      refine w_iadd hx hb dL_law_366 ?_
      refine w_scr hx hb hXs hbl hS (k := i + 1) (v := nI i0) hy1.symm (by omega) hL dL_law_367 ?_
      refine lv_aload_n hx hb dL_law_368 rfl (lv_at hl 0 rfl) ?_
      refine lv_iload hx hb dL_law_369 (lv_at hl 5 rfl) ?_
      refine lv_iconst (v := nI 2) hx hb dL_law_371 (by decide) ?_
      refine w_iadd hx hb dL_law_372 ?_
      refine w_scr hx hb hXs hbl hS (k := i + 2) (v := y2) hy2.symm (by omega) hL dL_law_373 ?_
      refine lv_aload_n hx hb dL_law_374 rfl (lv_at hl 0 rfl) ?_
      refine lv_iload hx hb dL_law_375 (lv_at hl 5 rfl) ?_
      refine lv_iconst (v := nI 3) hx hb dL_law_377 (by decide) ?_
      refine w_iadd hx hb dL_law_378 ?_
      refine w_scr hx hb hXs hbl hS (k := i + 3) (v := y3) hy3.symm (by omega) hL dL_law_379 ?_
      refine lv_aload_n hx hb dL_law_380 rfl (lv_at hl 3 rfl) ?_
      refine va_calli (vx_runSW (As := [.ref (q 0), .int (nI i0), .int y2, .int y3, .ref o]) (rest := []) S (z_L_setWeight1 ⟨rfl, rfl, Nat.le_of_ble_eq_true rfl, Nat.le_of_ble_eq_true rfl⟩ (x_X0_setWeight2 hlt hn hi0 h2)) (vx_cwSW 5 hts gL_law_L_setWeight rfl rfl rfl hdL_setWeight ⟨Nat.le_of_ble_eq_true rfl, Nat.le_of_ble_eq_true rfl⟩) (preSX hK hPx (xG.keep hG hS)) rfl rfl hl.1 rfl (lv_room (Nat.le_of_ble_eq_true rfl)) dL_law_381 ⟨hc.1, hc.2⟩) hS (fun _ _ h => h.elim) (fun _ h => h.elim) (fun r1 u1 t H locs ht hvm hw hB hz hk hS => ?_)
      have hPm := keepA hPm (wD_of hq' rfl) (fun x _ h => h) hk
      replace hw : r1 = nI 1 := hw
      subst hw
      replace hB : va_P D cls2 (cW q cI cD (nI n) rC fi fo fw fe ft fr fp fl ff ++ oW o o2 cJ cD f1 f2) t.heap := hB
      rw [ht] at hB
      have hPx := hB
      refine lv_istore (lv' := [(6, .int (nI 1)), (0, .ref b), (1, .ref (q 0)), (2, .ref (q' 0)), (3, .ref o), (4, .ref o2), (5, .int (nI i))]) hx hb dL_law_384 hl (by decide) rfl (fun ls hl => ?_)
      refine lv_aload_n hx hb dL_law_386 rfl (lv_at hl 3 rfl) ?_
      refine lv_aload_n hx hb dL_law_387 rfl (lv_at hl 1 rfl) ?_
      refine lv_iload hx hb dL_law_388 (lv_at hl 6 rfl) ?_
      refine lv_iconst (v := nI 1) hx hb dL_law_390 (by decide) ?_
      refine w_iadd hx hb dL_law_391 ?_
      refine w_scr hx hb hXs hbl hS (k := i + 1) (v := nI i0) hy1.symm (by omega) hL dL_law_392 ?_
      refine lv_aload_n hx hb dL_law_393 rfl (lv_at hl 1 rfl) ?_
      refine lv_iload hx hb dL_law_394 (lv_at hl 6 rfl) ?_
      refine lv_iconst (v := nI 2) hx hb dL_law_396 (by decide) ?_
      refine w_iadd hx hb dL_law_397 ?_
      refine w_scr hx hb hXs hbl hS (k := i + 2) (v := y2) hy2.symm (by omega) hL dL_law_398 ?_
      refine lv_aload_n hx hb dL_law_399 rfl (lv_at hl 1 rfl) ?_
      refine lv_iload hx hb dL_law_400 (lv_at hl 6 rfl) ?_
      refine lv_iconst (v := nI 3) hx hb dL_law_402 (by decide) ?_
      refine w_iadd hx hb dL_law_403 ?_
      refine w_scr hx hb hXs hbl hS (k := i + 3) (v := y3) hy3.symm (by omega) hL dL_law_404 ?_
      refine va_calli (va_runV (As := [.int (nI i0), .int y2, .int y3]) (rest := []) S (c_X1_setWeightx2 hn hi0 h2 hq') (cwV 3 hts gL_law_X1_setWeight rfl rfl rfl hdX1_setWeight ⟨Nat.le_of_ble_eq_true rfl, Nat.le_of_ble_eq_true rfl⟩) (preV hK2 hPm rfl rfl) rfl rfl hl.1 rfl (lv_room (Nat.le_of_ble_eq_true rfl)) dL_law_405 ⟨hc.1, hc.2⟩) hS (fun _ _ h => hA2 _ h) (fun _ h => hA2 _ h) (fun r2 u2 t H locs ht hvm hw2 hB hz hk hS => ?_)
      have hPx := keepA hPx (D12_of hd rfl) (fun x h1 h2 => hdis x h2 h1) hk
      replace hB : va_P D cls2 (mW q' cI cD (nI 1) (nI n) rC hh gi go gw ge gr gf gp gl gc) t.heap := hB
      rw [ht] at hB
      have hPm := hB
      refine lv_istore (lv' := [(7, .int r2), (6, .int (nI 1)), (0, .ref b), (1, .ref (q 0)), (2, .ref (q' 0)), (3, .ref o), (4, .ref o2), (5, .int (nI i))]) hx hb dL_law_408 hl (by decide) rfl (fun ls hl => ?_)
      refine lv_aload_n hx hb dL_law_410 rfl (lv_at hl 4 rfl) ?_
      refine vp_callSi (W.runV (As := []) (rest := []) S (c_X1_thrown) (cwV 0 hts gL_law_X1_thrown rfl rfl rfl hdX1_thrown ⟨Nat.le_of_ble_eq_true rfl, Nat.le_of_ble_eq_true rfl⟩) (preV hK2 hPm rfl rfl) rfl rfl hl.1 rfl (lv_room (Nat.le_of_ble_eq_true rfl)) dL_law_411 ⟨hc.1, hc.2⟩) (fun r3 er3 => ?_)
      subst er3
      refine lv_iload hx hb dL_law_414 (lv_at hl 1 rfl) ?_
      refine lv_icmp_eq (tgt := 421) hx hb dL_law_416 (by decide) (fun _ => ?_) (fun h => absurd rfl h)
      refine lv_iload hx hb dL_law_421 (lv_at hl 1 rfl) ?_
      refine lv_if_ne (tgt := 438) hx hb dL_law_423 (by decide) (fun h423_0 => ?_) (fun h423_0 => absurd h423_0 (by decide))
      refine lv_goto (tgt := 1355) hx hb dL_law_438 (by decide) ?_
      exact K n rC inf out w e _ _ _ hOK ⟨_, _, _, _, _, _, _, _, _, _, _, hPx, hI, hO, hW, hE, _, hT, hT2⟩ ⟨_, _, _, _, _, _, _, _, _, _, _, hPm, hI', hO', hW', hE'⟩ hS (lv_sub hl [2, 3, 4, 5, 6, 7] rfl)
  · replace h1 := Bool.not_eq_true _ |>.mp h1
    refine lv_aload_n hx hb dL_law_361 rfl (lv_at hl 1 rfl) ?_
    refine lv_aload_n hx hb dL_law_362 rfl (lv_at hl 0 rfl) ?_
    refine lv_iload hx hb dL_law_363 (lv_at hl 5 rfl) ?_
    refine lv_iconst (v := nI 1) hx hb dL_law_365 (by decide) ?_
    refine w_iadd hx hb dL_law_366 ?_
    refine w_scr hx hb hXs hbl hS (k := i + 1) (v := y1) hy1.symm (by omega) hL dL_law_367 ?_
    refine lv_aload_n hx hb dL_law_368 rfl (lv_at hl 0 rfl) ?_
    refine lv_iload hx hb dL_law_369 (lv_at hl 5 rfl) ?_
    refine lv_iconst (v := nI 2) hx hb dL_law_371 (by decide) ?_
    refine w_iadd hx hb dL_law_372 ?_
    refine w_scr hx hb hXs hbl hS (k := i + 2) (v := y2) hy2.symm (by omega) hL dL_law_373 ?_
    refine lv_aload_n hx hb dL_law_374 rfl (lv_at hl 0 rfl) ?_
    refine lv_iload hx hb dL_law_375 (lv_at hl 5 rfl) ?_
    refine lv_iconst (v := nI 3) hx hb dL_law_377 (by decide) ?_
    refine w_iadd hx hb dL_law_378 ?_
    refine w_scr hx hb hXs hbl hS (k := i + 3) (v := y3) hy3.symm (by omega) hL dL_law_379 ?_
    refine lv_aload_n hx hb dL_law_380 rfl (lv_at hl 3 rfl) ?_
    refine va_calli (vx_runSW (As := [.ref (q 0), .int y1, .int y2, .int y3, .ref o]) (rest := []) S (z_L_setWeight1 ⟨rfl, rfl, Nat.le_of_ble_eq_true rfl, Nat.le_of_ble_eq_true rfl⟩ (x_X0_setWeight1 hlt hn h1)) (vx_cwSW 5 hts gL_law_L_setWeight rfl rfl rfl hdL_setWeight ⟨Nat.le_of_ble_eq_true rfl, Nat.le_of_ble_eq_true rfl⟩) (preSX hK hPx (xG.keep hG hS)) rfl rfl hl.1 rfl (lv_room (Nat.le_of_ble_eq_true rfl)) dL_law_381 ⟨hc.1, hc.2⟩) hS (fun _ _ h => h.elim) (fun _ h => h.elim) (fun r1 u1 t H locs ht hvm hw hB hz hk hS => ?_)
    have hPm := keepA hPm (wD_of hq' rfl) (fun x _ h => h) hk
    replace hw : r1 = nI 1 := hw
    subst hw
    replace hB : va_P D cls2 (cW q cI cD (nI n) rC fi fo fw fe ft fr fp fl ff ++ oW o o2 cJ cD f1 f2) t.heap := hB
    rw [ht] at hB
    have hPx := hB
    refine lv_istore (lv' := [(6, .int (nI 1)), (0, .ref b), (1, .ref (q 0)), (2, .ref (q' 0)), (3, .ref o), (4, .ref o2), (5, .int (nI i))]) hx hb dL_law_384 hl (by decide) rfl (fun ls hl => ?_)
    refine lv_aload_n hx hb dL_law_386 rfl (lv_at hl 3 rfl) ?_
    refine lv_aload_n hx hb dL_law_387 rfl (lv_at hl 1 rfl) ?_
    refine lv_iload hx hb dL_law_388 (lv_at hl 6 rfl) ?_
    refine lv_iconst (v := nI 1) hx hb dL_law_390 (by decide) ?_
    refine w_iadd hx hb dL_law_391 ?_
    refine w_scr hx hb hXs hbl hS (k := i + 1) (v := y1) hy1.symm (by omega) hL dL_law_392 ?_
    refine lv_aload_n hx hb dL_law_393 rfl (lv_at hl 1 rfl) ?_
    refine lv_iload hx hb dL_law_394 (lv_at hl 6 rfl) ?_
    refine lv_iconst (v := nI 2) hx hb dL_law_396 (by decide) ?_
    refine w_iadd hx hb dL_law_397 ?_
    refine w_scr hx hb hXs hbl hS (k := i + 2) (v := y2) hy2.symm (by omega) hL dL_law_398 ?_
    refine lv_aload_n hx hb dL_law_399 rfl (lv_at hl 1 rfl) ?_
    refine lv_iload hx hb dL_law_400 (lv_at hl 6 rfl) ?_
    refine lv_iconst (v := nI 3) hx hb dL_law_402 (by decide) ?_
    refine w_iadd hx hb dL_law_403 ?_
    refine w_scr hx hb hXs hbl hS (k := i + 3) (v := y3) hy3.symm (by omega) hL dL_law_404 ?_
    refine va_calli (va_runV (As := [.int y1, .int y2, .int y3]) (rest := []) S (c_X1_setWeightx1 hn h1 hq') (cwV 3 hts gL_law_X1_setWeight rfl rfl rfl hdX1_setWeight ⟨Nat.le_of_ble_eq_true rfl, Nat.le_of_ble_eq_true rfl⟩) (preV hK2 hPm rfl rfl) rfl rfl hl.1 rfl (lv_room (Nat.le_of_ble_eq_true rfl)) dL_law_405 ⟨hc.1, hc.2⟩) hS (fun _ _ h => hA2 _ h) (fun _ h => hA2 _ h) (fun r2 u2 t H locs ht hvm hw2 hB hz hk hS => ?_)
    have hPx := keepA hPx (D12_of hd rfl) (fun x h1 h2 => hdis x h2 h1) hk
    replace hB : va_P D cls2 (mW q' cI cD (nI 1) (nI n) rC hh gi go gw ge gr gf gp gl gc) t.heap := hB
    rw [ht] at hB
    have hPm := hB
    refine lv_istore (lv' := [(7, .int r2), (6, .int (nI 1)), (0, .ref b), (1, .ref (q 0)), (2, .ref (q' 0)), (3, .ref o), (4, .ref o2), (5, .int (nI i))]) hx hb dL_law_408 hl (by decide) rfl (fun ls hl => ?_)
    refine lv_aload_n hx hb dL_law_410 rfl (lv_at hl 4 rfl) ?_
    refine vp_callSi (W.runV (As := []) (rest := []) S (c_X1_thrown) (cwV 0 hts gL_law_X1_thrown rfl rfl rfl hdX1_thrown ⟨Nat.le_of_ble_eq_true rfl, Nat.le_of_ble_eq_true rfl⟩) (preV hK2 hPm rfl rfl) rfl rfl hl.1 rfl (lv_room (Nat.le_of_ble_eq_true rfl)) dL_law_411 ⟨hc.1, hc.2⟩) (fun r3 er3 => ?_)
    subst er3
    refine lv_iload hx hb dL_law_414 (lv_at hl 1 rfl) ?_
    refine lv_icmp_eq (tgt := 421) hx hb dL_law_416 (by decide) (fun _ => ?_) (fun h => absurd rfl h)
    refine lv_iload hx hb dL_law_421 (lv_at hl 1 rfl) ?_
    refine lv_if_ne (tgt := 438) hx hb dL_law_423 (by decide) (fun h423_0 => ?_) (fun h423_0 => absurd h423_0 (by decide))
    refine lv_goto (tgt := 1355) hx hb dL_law_438 (by decide) ?_
    exact K n rC inf out w e _ _ _ hOK ⟨_, _, _, _, _, _, _, _, _, _, _, hPx, hI, hO, hW, hE, _, hT, hT2⟩ ⟨_, _, _, _, _, _, _, _, _, _, _, hPm, hI', hO', hW', hE'⟩ hS (lv_sub hl [2, 3, 4, 5, 6, 7] rfl)
set_option maxHeartbeats 8000000 in
set_option maxRecDepth 100000 in
theorem law_5 {p : Program} {l : Launch} {e9 : Env} {s : State} {m : MethodId} {below : List Frame} {meth : Method} {c : Code} {b L : Nat} {xs : Nat → Int32} {D : va_G} {q q' : Nat → Nat} {o o2 : Nat} {cI cD cJ : ClassId} {sa : Nat → Nat} {i cells slots : Nat} {Q : State → Prop} (C : LCx p l s m meth c b L xs D q q' o o2 cI cD cJ sa) (hi : i + 4 < L) (hc : cells + 1 ≤ 3098 ∧ slots + 6 ≤ 119182) (K : LK p l e9 s m below meth c b D q q' o o2 cI cD cJ i cells slots Q)
    {n : Nat} {rC : Int32} {inf out : Nat → Int32} {w : Nat → Nat → Int32} {e : Nat → Nat → UInt64} {H : Heap} {locs : List Loc} {ls : Array Slot} (hOK : OKs n inf out w e) (hX : LX D q o o2 cI cD cJ n rC inf out w e H) (hM : LM D q' cI cD n rC inf out w e H) (hS : va_S (fun x : Nat => s.heap.size ≤ x) s.heap H locs) (hl : lv_has ls 10 (lvL q q' b o o2 i)) : W p l e9 room_1 s m #[Value.ref b] below meth c H locs cells slots Q (F0 m 441 ls []) := by
  obtain ⟨S, ⟨hr, hlocks⟩, hK, ⟨hd, hq', hdis⟩, ⟨hXs, hbl, hL⟩, hA1, hA2, hG, hlt⟩ := C
  obtain ⟨hx, hb, hml, hown, hts⟩ := id S
  obtain ⟨fi, fo, fw, fe, ft, fr, fp, fl, ff, f1, f2, hPx, hI, hO, hW, hE, T, hT, hT2⟩ := hX
  obtain ⟨th, hh, gi, go, gw, ge, gr, gf, gp, gl, gc, hPm, hI', hO', hW', hE'⟩ := hM
  have hK2 : va_K D cls2 (tys2 cI cD) s := hK.sub [0, 1] rfl
  have hq := hd.1
  obtain ⟨hn, hbI, hbO, hbW, hgE⟩ := id hOK
  obtain ⟨y1, hy1⟩ : ∃ y, y = xs (i + 1) := ⟨_, rfl⟩
  by_cases h1 : wth y1 (nI 0) (nI 300) = true
  · have hz0 := hn
    by_cases h2 : slB inf out y1 n = true
    · have hz1 := hn
      refine lv_aload_n hx hb dL_law_441 rfl (lv_at hl 1 rfl) ?_
      refine lv_aload_n hx hb dL_law_442 rfl (lv_at hl 0 rfl) ?_
      refine lv_iload hx hb dL_law_443 (lv_at hl 5 rfl) ?_
      refine lv_iconst (v := nI 1) hx hb dL_law_445 (by decide) ?_
      refine w_iadd hx hb dL_law_446 ?_
      refine w_scr hx hb hXs hbl hS (k := i + 1) (v := y1) hy1.symm (by omega) hL dL_law_447 ?_
      refine lv_aload_n hx hb dL_law_448 rfl (lv_at hl 3 rfl) ?_
      refine va_calli (vx_runSW (As := [.ref (q 0), .int y1, .ref o]) (rest := []) S (k_L_scale (c_X0_scale hn hI hO hW (wth_t1 h1) (wth_t2 h1) (slB_t n h2) hq) (fun _ => rfl) hd) (vx_cwSW 3 hts gL_law_L_scale rfl rfl rfl hdL_scale ⟨Nat.le_of_ble_eq_true rfl, Nat.le_of_ble_eq_true rfl⟩) (preSP hK hPx) rfl rfl hl.1 rfl (lv_room (Nat.le_of_ble_eq_true rfl)) dL_law_449 ⟨Nat.le_trans (Nat.le_succ _) hc.1, Nat.le_trans (Nat.le_add_right _ 6) hc.2⟩) hS (fun _ _ h => hA1 _ h) (fun _ h => hA1 _ h) (fun r1 u1 t H locs ht hvm hw hB hz hk hS => ?_)
      have hPm := keepA hPm (wD_of hq' rfl) hdis hk
      obtain ⟨hw0, hw⟩ := hw
      subst hw0
      replace hB : va_P D cls2 (cW q cI cD (nI n) (nI 0) u1.2.1 u1.2.2.1 fw u1.2.2.2 ft fr fp fl ff ++ oW o o2 cJ cD (vp_updL f1 0 (Int32.toInt64 u1.1)) f2) t.heap := hB
      rw [ht] at hB
      have hPx := hB
      obtain ⟨hr1, hI, hO, hE⟩ := hw
      rw [hr1] at hPx
      refine lv_istore (lv' := [(6, .int (nI 0)), (0, .ref b), (1, .ref (q 0)), (2, .ref (q' 0)), (3, .ref o), (4, .ref o2), (5, .int (nI i))]) hx hb dL_law_452 hl (by decide) rfl (fun ls hl => ?_)
      refine lv_aload_n hx hb dL_law_454 rfl (lv_at hl 3 rfl) ?_
      refine lv_aload_n hx hb dL_law_455 rfl (lv_at hl 1 rfl) ?_
      refine lv_iload hx hb dL_law_456 (lv_at hl 6 rfl) ?_
      refine lv_iconst (v := nI 1) hx hb dL_law_458 (by decide) ?_
      refine w_iadd hx hb dL_law_459 ?_
      refine w_scr hx hb hXs hbl hS (k := i + 1) (v := y1) hy1.symm (by omega) hL dL_law_460 ?_
      refine va_calli (va_runV (As := [.int y1]) (rest := []) S (c_X1_scale hn hI' hO' hW' h1 h2 hq') (cwV 1 hts gL_law_X1_scale rfl rfl rfl hdX1_scale ⟨Nat.le_of_ble_eq_true rfl, Nat.le_of_ble_eq_true rfl⟩) (preV hK2 hPm rfl rfl) rfl rfl hl.1 rfl (lv_room (Nat.le_of_ble_eq_true rfl)) dL_law_461 ⟨Nat.le_trans (Nat.le_succ _) hc.1, Nat.le_trans (Nat.le_add_right _ 6) hc.2⟩) hS (fun _ _ h => hA2 _ h) (fun _ h => hA2 _ h) (fun r2 u2 t H locs ht hvm hw2 hB hz hk hS => ?_)
      have hPx := keepA hPx (D12_of hd rfl) (fun x h1 h2 => hdis x h2 h1) hk
      replace hB : va_P D cls2 (mW q' cI cD (nI 0) (nI n) (nI 0) hh u2.1 u2.2.1 gw u2.2.2 gr gf gp gl gc) t.heap := hB
      rw [ht] at hB
      have hPm := hB
      obtain ⟨hr2, hI', hO', hE'⟩ := hw2
      rw [hr2, msc_eq (n := n) n (Nat.le_refl _)]
      refine lv_istore (lv' := [(7, .int (sumI (scO y1 n inf) n)), (6, .int (nI 0)), (0, .ref b), (1, .ref (q 0)), (2, .ref (q' 0)), (3, .ref o), (4, .ref o2), (5, .int (nI i))]) hx hb dL_law_464 hl (by decide) rfl (fun ls hl => ?_)
      refine lv_aload_n hx hb dL_law_466 rfl (lv_at hl 4 rfl) ?_
      refine vp_callSi (W.runV (As := []) (rest := []) S (c_X1_thrown) (cwV 0 hts gL_law_X1_thrown rfl rfl rfl hdX1_thrown ⟨Nat.le_of_ble_eq_true rfl, Nat.le_of_ble_eq_true rfl⟩) (preV hK2 hPm rfl rfl) rfl rfl hl.1 rfl (lv_room (Nat.le_of_ble_eq_true rfl)) dL_law_467 ⟨Nat.le_trans (Nat.le_succ _) hc.1, Nat.le_trans (Nat.le_add_right _ 6) hc.2⟩) (fun r3 er3 => ?_)
      subst er3
      refine lv_iload hx hb dL_law_470 (lv_at hl 1 rfl) ?_
      refine lv_icmp_eq (tgt := 477) hx hb dL_law_472 (by decide) (fun _ => ?_) (fun h => absurd rfl h)
      refine lv_iload hx hb dL_law_477 (lv_at hl 1 rfl) ?_
      refine lv_if_ne (tgt := 494) hx hb dL_law_479 (by decide) (fun h479_0 => absurd (by decide) h479_0) (fun h479_0 => ?_)
      refine lv_aload_n hx hb dL_law_482 rfl (lv_at hl 5 rfl) ?_
      refine lv_iconst (v := nI 0) hx hb dL_law_483 (by decide) ?_
      refine w_lald hx hb hK hPx 10 2 rfl rfl (j := 0) (v := Int32.toInt64 (sumI (scO y1 n inf) n)) (updL_self _ _ _) (by decide) (by decide) dL_law_484 ?_
      refine lv_iload hx hb dL_law_485 (lv_at hl 0 rfl) ?_
      refine lv_i2l hx hb dL_law_487 rfl ?_
      refine w_lcmp0 hx hb dL_law_488 ?_
      refine lv_if_eq (tgt := 494) hx hb dL_law_489 (by decide) (fun h489_1 => ?_) (fun h489_1 => absurd (by decide) h489_1)
      refine lv_goto (tgt := 1355) hx hb dL_law_494 (by decide) ?_
      refine W.widen (k := cells + 1) (n := slots + 6) (Nat.le_succ _) (Nat.le_add_right _ 6) ?_
      exact K n (nI 0) (scO y1 n inf) (scO y1 n out) w (lay w) _ _ _ ⟨hn, BD_sc hbI (wth_bd (by decide) h1) (fun k hk => (slB_t n h2 k hk).1), BD_sc hbO (wth_bd (by decide) h1) (fun k hk => (slB_t n h2 k hk).2), hbW, GE_lay hbW⟩ ⟨_, _, _, _, _, _, _, _, _, _, _, hPx, hI, hO, hW, hE, _, hT, hT2⟩ ⟨_, _, _, _, _, _, _, _, _, _, _, hPm, hI', hO', hW', hE'⟩ hS (lv_sub hl [2, 3, 4, 5, 6, 7] rfl)
    · replace h2 := Bool.not_eq_true _ |>.mp h2
      refine lv_aload_n hx hb dL_law_441 rfl (lv_at hl 1 rfl) ?_
      refine lv_aload_n hx hb dL_law_442 rfl (lv_at hl 0 rfl) ?_
      refine lv_iload hx hb dL_law_443 (lv_at hl 5 rfl) ?_
      refine lv_iconst (v := nI 1) hx hb dL_law_445 (by decide) ?_
      refine w_iadd hx hb dL_law_446 ?_
      refine w_scr hx hb hXs hbl hS (k := i + 1) (v := y1) hy1.symm (by omega) hL dL_law_447 ?_
      refine lv_aload_n hx hb dL_law_448 rfl (lv_at hl 3 rfl) ?_
      refine va_calli (vx_runSW (As := [.ref (q 0), .int y1, .ref o]) (rest := []) S (z_L_scale2 ⟨rfl, rfl, Nat.le_of_ble_eq_true rfl, Nat.le_of_ble_eq_true rfl⟩ (x_X0_scale2 hlt hn hI hO h1 h2)) (vx_cwSW 3 hts gL_law_L_scale rfl rfl rfl hdL_scale ⟨Nat.le_of_ble_eq_true rfl, Nat.le_of_ble_eq_true rfl⟩) (preSX hK hPx (xG.keep hG hS)) rfl rfl hl.1 rfl (lv_room (Nat.le_of_ble_eq_true rfl)) dL_law_449 ⟨hc.1, hc.2⟩) hS (fun _ _ h => h.elim) (fun _ h => h.elim) (fun r1 u1 t H locs ht hvm hw hB hz hk hS => ?_)
      have hPm := keepA hPm (wD_of hq' rfl) (fun x _ h => h) hk
      replace hw : r1 = nI 2 := hw
      subst hw
      replace hB : va_P D cls2 (cW q cI cD (nI n) rC fi fo fw fe ft fr fp fl ff ++ oW o o2 cJ cD f1 f2) t.heap := hB
      rw [ht] at hB
      have hPx := hB
      refine lv_istore (lv' := [(6, .int (nI 2)), (0, .ref b), (1, .ref (q 0)), (2, .ref (q' 0)), (3, .ref o), (4, .ref o2), (5, .int (nI i))]) hx hb dL_law_452 hl (by decide) rfl (fun ls hl => ?_)
      refine lv_aload_n hx hb dL_law_454 rfl (lv_at hl 3 rfl) ?_
      refine lv_aload_n hx hb dL_law_455 rfl (lv_at hl 1 rfl) ?_
      refine lv_iload hx hb dL_law_456 (lv_at hl 6 rfl) ?_
      refine lv_iconst (v := nI 1) hx hb dL_law_458 (by decide) ?_
      refine w_iadd hx hb dL_law_459 ?_
      refine w_scr hx hb hXs hbl hS (k := i + 1) (v := y1) hy1.symm (by omega) hL dL_law_460 ?_
      refine va_calli (va_runV (As := [.int y1]) (rest := []) S (c_X1_scalex2 hn hI' hO' h1 h2 hq') (cwV 1 hts gL_law_X1_scale rfl rfl rfl hdX1_scale ⟨Nat.le_of_ble_eq_true rfl, Nat.le_of_ble_eq_true rfl⟩) (preV hK2 hPm rfl rfl) rfl rfl hl.1 rfl (lv_room (Nat.le_of_ble_eq_true rfl)) dL_law_461 ⟨hc.1, hc.2⟩) hS (fun _ _ h => hA2 _ h) (fun _ h => hA2 _ h) (fun r2 u2 t H locs ht hvm hw2 hB hz hk hS => ?_)
      have hPx := keepA hPx (D12_of hd rfl) (fun x h1 h2 => hdis x h2 h1) hk
      replace hB : va_P D cls2 (mW q' cI cD (nI 2) (nI n) rC hh gi go gw ge gr gf gp gl gc) t.heap := hB
      rw [ht] at hB
      have hPm := hB
      refine lv_istore (lv' := [(7, .int r2), (6, .int (nI 2)), (0, .ref b), (1, .ref (q 0)), (2, .ref (q' 0)), (3, .ref o), (4, .ref o2), (5, .int (nI i))]) hx hb dL_law_464 hl (by decide) rfl (fun ls hl => ?_)
      refine lv_aload_n hx hb dL_law_466 rfl (lv_at hl 4 rfl) ?_
      refine vp_callSi (W.runV (As := []) (rest := []) S (c_X1_thrown) (cwV 0 hts gL_law_X1_thrown rfl rfl rfl hdX1_thrown ⟨Nat.le_of_ble_eq_true rfl, Nat.le_of_ble_eq_true rfl⟩) (preV hK2 hPm rfl rfl) rfl rfl hl.1 rfl (lv_room (Nat.le_of_ble_eq_true rfl)) dL_law_467 ⟨hc.1, hc.2⟩) (fun r3 er3 => ?_)
      subst er3
      refine lv_iload hx hb dL_law_470 (lv_at hl 1 rfl) ?_
      refine lv_icmp_eq (tgt := 477) hx hb dL_law_472 (by decide) (fun _ => ?_) (fun h => absurd rfl h)
      refine lv_iload hx hb dL_law_477 (lv_at hl 1 rfl) ?_
      refine lv_if_ne (tgt := 494) hx hb dL_law_479 (by decide) (fun h479_0 => ?_) (fun h479_0 => absurd h479_0 (by decide))
      refine lv_goto (tgt := 1355) hx hb dL_law_494 (by decide) ?_
      exact K n rC inf out w e _ _ _ hOK ⟨_, _, _, _, _, _, _, _, _, _, _, hPx, hI, hO, hW, hE, _, hT, hT2⟩ ⟨_, _, _, _, _, _, _, _, _, _, _, hPm, hI', hO', hW', hE'⟩ hS (lv_sub hl [2, 3, 4, 5, 6, 7] rfl)
  · replace h1 := Bool.not_eq_true _ |>.mp h1
    refine lv_aload_n hx hb dL_law_441 rfl (lv_at hl 1 rfl) ?_
    refine lv_aload_n hx hb dL_law_442 rfl (lv_at hl 0 rfl) ?_
    refine lv_iload hx hb dL_law_443 (lv_at hl 5 rfl) ?_
    refine lv_iconst (v := nI 1) hx hb dL_law_445 (by decide) ?_
    refine w_iadd hx hb dL_law_446 ?_
    refine w_scr hx hb hXs hbl hS (k := i + 1) (v := y1) hy1.symm (by omega) hL dL_law_447 ?_
    refine lv_aload_n hx hb dL_law_448 rfl (lv_at hl 3 rfl) ?_
    refine va_calli (vx_runSW (As := [.ref (q 0), .int y1, .ref o]) (rest := []) S (z_L_scale1 ⟨rfl, rfl, Nat.le_of_ble_eq_true rfl, Nat.le_of_ble_eq_true rfl⟩ (x_X0_scale1 hlt h1)) (vx_cwSW 3 hts gL_law_L_scale rfl rfl rfl hdL_scale ⟨Nat.le_of_ble_eq_true rfl, Nat.le_of_ble_eq_true rfl⟩) (preSX hK hPx (xG.keep hG hS)) rfl rfl hl.1 rfl (lv_room (Nat.le_of_ble_eq_true rfl)) dL_law_449 ⟨hc.1, hc.2⟩) hS (fun _ _ h => h.elim) (fun _ h => h.elim) (fun r1 u1 t H locs ht hvm hw hB hz hk hS => ?_)
    have hPm := keepA hPm (wD_of hq' rfl) (fun x _ h => h) hk
    replace hw : r1 = nI 1 := hw
    subst hw
    replace hB : va_P D cls2 (cW q cI cD (nI n) rC fi fo fw fe ft fr fp fl ff ++ oW o o2 cJ cD f1 f2) t.heap := hB
    rw [ht] at hB
    have hPx := hB
    refine lv_istore (lv' := [(6, .int (nI 1)), (0, .ref b), (1, .ref (q 0)), (2, .ref (q' 0)), (3, .ref o), (4, .ref o2), (5, .int (nI i))]) hx hb dL_law_452 hl (by decide) rfl (fun ls hl => ?_)
    refine lv_aload_n hx hb dL_law_454 rfl (lv_at hl 3 rfl) ?_
    refine lv_aload_n hx hb dL_law_455 rfl (lv_at hl 1 rfl) ?_
    refine lv_iload hx hb dL_law_456 (lv_at hl 6 rfl) ?_
    refine lv_iconst (v := nI 1) hx hb dL_law_458 (by decide) ?_
    refine w_iadd hx hb dL_law_459 ?_
    refine w_scr hx hb hXs hbl hS (k := i + 1) (v := y1) hy1.symm (by omega) hL dL_law_460 ?_
    refine va_calli (va_runV (As := [.int y1]) (rest := []) S (c_X1_scalex1 hn h1 hq') (cwV 1 hts gL_law_X1_scale rfl rfl rfl hdX1_scale ⟨Nat.le_of_ble_eq_true rfl, Nat.le_of_ble_eq_true rfl⟩) (preV hK2 hPm rfl rfl) rfl rfl hl.1 rfl (lv_room (Nat.le_of_ble_eq_true rfl)) dL_law_461 ⟨hc.1, hc.2⟩) hS (fun _ _ h => hA2 _ h) (fun _ h => hA2 _ h) (fun r2 u2 t H locs ht hvm hw2 hB hz hk hS => ?_)
    have hPx := keepA hPx (D12_of hd rfl) (fun x h1 h2 => hdis x h2 h1) hk
    replace hB : va_P D cls2 (mW q' cI cD (nI 1) (nI n) rC hh gi go gw ge gr gf gp gl gc) t.heap := hB
    rw [ht] at hB
    have hPm := hB
    refine lv_istore (lv' := [(7, .int r2), (6, .int (nI 1)), (0, .ref b), (1, .ref (q 0)), (2, .ref (q' 0)), (3, .ref o), (4, .ref o2), (5, .int (nI i))]) hx hb dL_law_464 hl (by decide) rfl (fun ls hl => ?_)
    refine lv_aload_n hx hb dL_law_466 rfl (lv_at hl 4 rfl) ?_
    refine vp_callSi (W.runV (As := []) (rest := []) S (c_X1_thrown) (cwV 0 hts gL_law_X1_thrown rfl rfl rfl hdX1_thrown ⟨Nat.le_of_ble_eq_true rfl, Nat.le_of_ble_eq_true rfl⟩) (preV hK2 hPm rfl rfl) rfl rfl hl.1 rfl (lv_room (Nat.le_of_ble_eq_true rfl)) dL_law_467 ⟨hc.1, hc.2⟩) (fun r3 er3 => ?_)
    subst er3
    refine lv_iload hx hb dL_law_470 (lv_at hl 1 rfl) ?_
    refine lv_icmp_eq (tgt := 477) hx hb dL_law_472 (by decide) (fun _ => ?_) (fun h => absurd rfl h)
    refine lv_iload hx hb dL_law_477 (lv_at hl 1 rfl) ?_
    refine lv_if_ne (tgt := 494) hx hb dL_law_479 (by decide) (fun h479_0 => ?_) (fun h479_0 => absurd h479_0 (by decide))
    refine lv_goto (tgt := 1355) hx hb dL_law_494 (by decide) ?_
    exact K n rC inf out w e _ _ _ hOK ⟨_, _, _, _, _, _, _, _, _, _, _, hPx, hI, hO, hW, hE, _, hT, hT2⟩ ⟨_, _, _, _, _, _, _, _, _, _, _, hPm, hI', hO', hW', hE'⟩ hS (lv_sub hl [2, 3, 4, 5, 6, 7] rfl)
