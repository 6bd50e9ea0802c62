set_option maxHeartbeats 8000000 in
set_option maxRecDepth 100000 in
theorem law_9 {p : Program} {l : Launch} {e9 : Env} {s : State} {m : MethodId} {below : List Frame} {meth : Method} {c : Code} {b L : Nat} {xs : Nat → Int32} {D : va_G} {q q' : Nat → Nat} {o o2 : Nat} {cI cD cJ : ClassId} {sa : Nat → Nat} {i cells slots : Nat} {Q : State → Prop} (C : LCx p l s m meth c b L xs D q q' o o2 cI cD cJ sa) (hi : i + 4 < L) (hc : cells + 1 ≤ 3098 ∧ slots + 6 ≤ 119182) (K : LK p l e9 s m below meth c b D q q' o o2 cI cD cJ i cells slots Q)
    {n : Nat} {rC : Int32} {inf out : Nat → Int32} {w : Nat → Nat → Int32} {e : Nat → Nat → UInt64} {H : Heap} {locs : List Loc} {ls : Array Slot} (hOK : OKs n inf out w e) (hX : LX D q o o2 cI cD cJ n rC inf out w e H) (hM : LM D q' cI cD n rC inf out w e H) (hS : va_S (fun x : Nat => s.heap.size ≤ x) s.heap H locs) (hl : lv_has ls 10 (lvL q q' b o o2 i)) : W p l e9 room_1 s m #[Value.ref b] below meth c H locs cells slots Q (F0 m 536 ls []) := by
  obtain ⟨S, ⟨hr, hlocks⟩, hK, ⟨hd, hq', hdis⟩, ⟨hXs, hbl, hL⟩, hA1, hA2, hG, hlt⟩ := C
  obtain ⟨hx, hb, hml, hown, hts⟩ := id S
  obtain ⟨fi, fo, fw, fe, ft, fr, fp, fl, ff, f1, f2, hPx, hI, hO, hW, hE, T, hT, hT2⟩ := hX
  obtain ⟨th, hh, gi, go, gw, ge, gr, gf, gp, gl, gc, hPm, hI', hO', hW', hE'⟩ := hM
  have hK2 : va_K D cls2 (tys2 cI cD) s := hK.sub [0, 1] rfl
  have hq := hd.1
  obtain ⟨hn, hbI, hbO, hbW, hgE⟩ := id hOK
  obtain ⟨y1, hy1⟩ : ∃ y, y = xs (i + 1) := ⟨_, rfl⟩
  by_cases h : wth y1 (nI 0) (nI (2 ^ n - 1)) = true
  · have hp6 := pow6 hn
    obtain ⟨s0, -, hs0, rfl⟩ := wth_t (b := 2 ^ n - 1) (by omega) h (by decide)
    refine lv_aload_n hx hb dL_law_536 rfl (lv_at hl 1 rfl) ?_
    refine lv_aload_n hx hb dL_law_537 rfl (lv_at hl 0 rfl) ?_
    refine lv_iload hx hb dL_law_538 (lv_at hl 5 rfl) ?_
    refine lv_iconst (v := nI 1) hx hb dL_law_540 (by decide) ?_
    refine w_iadd hx hb dL_law_541 ?_
    refine w_scr hx hb hXs hbl hS (k := i + 1) (v := nI s0) hy1.symm (by omega) hL dL_law_542 ?_
    refine lv_aload_n hx hb dL_law_543 rfl (lv_at hl 3 rfl) ?_
    refine va_calli (vx_runSW (As := [.ref (q 0), .int (nI s0), .ref o]) (rest := []) S (k_L_excess (c_X0_excess hn hI hO hT hT2 (s := s0) (by omega)) hd) (vx_cwSW 3 hts gL_law_L_excess rfl rfl rfl hdL_excess ⟨Nat.le_of_ble_eq_true rfl, Nat.le_of_ble_eq_true rfl⟩) (preSP hK hPx) rfl rfl hl.1 rfl (lv_room (Nat.le_of_ble_eq_true rfl)) dL_law_544 ⟨Nat.le_trans (Nat.le_succ _) hc.1, Nat.le_trans (Nat.le_add_right _ 6) hc.2⟩) hS (fun _ _ h => hA1 _ h) (fun _ h => hA1 _ h) (fun r1 u1 t H locs ht hvm hw hB hz hk hS => ?_)
    have hPm := keepA hPm (wD_of hq' rfl) hdis hk
    obtain ⟨hw0, hw⟩ := hw
    subst hw0
    replace hB : va_P D cls2 (cW q cI cD (nI n) rC fi fo fw fe ft fr fp fl ff ++ oW o o2 cJ cD (vp_updL f1 0 (Int32.toInt64 u1)) f2) t.heap := hB
    rw [ht] at hB
    have hPx := hB
    replace hw : u1 = exc n (opn w) inf out s0 n := hw
    rw [hw] at hPx
    refine lv_istore (lv' := [(6, .int (nI 0)), (0, .ref b), (1, .ref (q 0)), (2, .ref (q' 0)), (3, .ref o), (4, .ref o2), (5, .int (nI i))]) hx hb dL_law_547 hl (by decide) rfl (fun ls hl => ?_)
    refine lv_aload_n hx hb dL_law_549 rfl (lv_at hl 3 rfl) ?_
    refine lv_aload_n hx hb dL_law_550 rfl (lv_at hl 1 rfl) ?_
    refine lv_iload hx hb dL_law_551 (lv_at hl 6 rfl) ?_
    refine lv_iconst (v := nI 1) hx hb dL_law_553 (by decide) ?_
    refine w_iadd hx hb dL_law_554 ?_
    refine w_scr hx hb hXs hbl hS (k := i + 1) (v := nI s0) hy1.symm (by omega) hL dL_law_555 ?_
    refine va_calli (va_runV (As := [.int (nI s0)]) (rest := []) S (c_X1_excess hn hI' hO' hW' (s := s0) (by omega) hq') (cwV 1 hts gL_law_X1_excess rfl rfl rfl hdX1_excess ⟨Nat.le_of_ble_eq_true rfl, Nat.le_of_ble_eq_true rfl⟩) (preV hK2 hPm rfl rfl) rfl rfl hl.1 rfl (lv_room (Nat.le_of_ble_eq_true rfl)) dL_law_556 ⟨Nat.le_trans (Nat.le_succ _) hc.1, Nat.le_trans (Nat.le_add_right _ 6) hc.2⟩) hS (fun _ _ h => hA2 _ h) (fun _ h => hA2 _ h) (fun r2 u2 t H locs ht hvm hw2 hB hz hk hS => ?_)
    have hPx := keepA hPx (D12_of hd rfl) (fun x h1 h2 => hdis x h2 h1) hk
    replace hB : va_P D cls2 (mW q' cI cD (nI 0) (nI n) rC hh gi go gw ge gr gf gp gl gc) t.heap := hB
    rw [ht] at hB
    have hPm := hB
    replace hw2 : r2 = exc n (opn w) inf out s0 n := hw2
    rw [hw2]
    refine lv_istore (lv' := [(7, .int (exc n (opn w) inf out s0 n)), (6, .int (nI 0)), (0, .ref b), (1, .ref (q 0)), (2, .ref (q' 0)), (3, .ref o), (4, .ref o2), (5, .int (nI i))]) hx hb dL_law_559 hl (by decide) rfl (fun ls hl => ?_)
    refine lv_aload_n hx hb dL_law_561 rfl (lv_at hl 4 rfl) ?_
    refine vp_callSi (W.runV (As := []) (rest := []) S (c_X1_thrown) (cwV 0 hts gL_law_X1_thrown rfl rfl rfl hdX1_thrown ⟨Nat.le_of_ble_eq_true rfl, Nat.le_of_ble_eq_true rfl⟩) (preV hK2 hPm rfl rfl) rfl rfl hl.1 rfl (lv_room (Nat.le_of_ble_eq_true rfl)) dL_law_562 ⟨Nat.le_trans (Nat.le_succ _) hc.1, Nat.le_trans (Nat.le_add_right _ 6) hc.2⟩) (fun r3 er3 => ?_)
    subst er3
    refine lv_iload hx hb dL_law_565 (lv_at hl 1 rfl) ?_
    refine lv_icmp_eq (tgt := 572) hx hb dL_law_567 (by decide) (fun _ => ?_) (fun h => absurd rfl h)
    refine lv_iload hx hb dL_law_572 (lv_at hl 1 rfl) ?_
    refine lv_if_ne (tgt := 589) hx hb dL_law_574 (by decide) (fun h574_0 => absurd (by decide) h574_0) (fun h574_0 => ?_)
    refine lv_aload_n hx hb dL_law_577 rfl (lv_at hl 5 rfl) ?_
    refine lv_iconst (v := nI 0) hx hb dL_law_578 (by decide) ?_
    refine w_lald hx hb hK hPx 10 2 rfl rfl (j := 0) (v := Int32.toInt64 (exc n (opn w) inf out s0 n)) (updL_self _ _ _) (by decide) (by decide) dL_law_579 ?_
    refine lv_iload hx hb dL_law_580 (lv_at hl 0 rfl) ?_
    refine lv_i2l hx hb dL_law_582 rfl ?_
    refine w_lcmp0 hx hb dL_law_583 ?_
    refine lv_if_eq (tgt := 589) hx hb dL_law_584 (by decide) (fun h584_1 => ?_) (fun h584_1 => absurd (by decide) h584_1)
    refine lv_goto (tgt := 1355) hx hb dL_law_589 (by decide) ?_
    refine W.widen (k := cells + 1) (n := slots + 6) (Nat.le_succ _) (Nat.le_add_right _ 6) ?_
    exact K n rC inf out w e _ _ _ hOK ⟨_, _, _, _, _, _, _, _, _, _, _, hPx, hI, hO, hW, hE, _, hT, hT2⟩ ⟨_, _, _, _, _, _, _, _, _, _, _, hPm, hI', hO', hW', hE'⟩ hS (lv_sub hl [2, 3, 4, 5, 6, 7] rfl)
  · replace h := Bool.not_eq_true _ |>.mp h
    refine lv_aload_n hx hb dL_law_536 rfl (lv_at hl 1 rfl) ?_
    refine lv_aload_n hx hb dL_law_537 rfl (lv_at hl 0 rfl) ?_
    refine lv_iload hx hb dL_law_538 (lv_at hl 5 rfl) ?_
    refine lv_iconst (v := nI 1) hx hb dL_law_540 (by decide) ?_
    refine w_iadd hx hb dL_law_541 ?_
    refine w_scr hx hb hXs hbl hS (k := i + 1) (v := y1) hy1.symm (by omega) hL dL_law_542 ?_
    refine lv_aload_n hx hb dL_law_543 rfl (lv_at hl 3 rfl) ?_
    refine va_calli (vx_runSW (As := [.ref (q 0), .int y1, .ref o]) (rest := []) S (z_L_excess1 ⟨rfl, rfl, Nat.le_of_ble_eq_true rfl, Nat.le_of_ble_eq_true rfl⟩ (x_X0_excess hlt hn h)) (vx_cwSW 3 hts gL_law_L_excess rfl rfl rfl hdL_excess ⟨Nat.le_of_ble_eq_true rfl, Nat.le_of_ble_eq_true rfl⟩) (preSX hK hPx (xG.keep hG hS)) rfl rfl hl.1 rfl (lv_room (Nat.le_of_ble_eq_true rfl)) dL_law_544 ⟨hc.1, hc.2⟩) hS (fun _ _ h => h.elim) (fun _ h => h.elim) (fun r1 u1 t H locs ht hvm hw hB hz hk hS => ?_)
    have hPm := keepA hPm (wD_of hq' rfl) (fun x _ h => h) hk
    replace hw : r1 = nI 1 := hw
    subst hw
    replace hB : va_P D cls2 (cW q cI cD (nI n) rC fi fo fw fe ft fr fp fl ff ++ oW o o2 cJ cD f1 f2) t.heap := hB
    rw [ht] at hB
    have hPx := hB
    refine lv_istore (lv' := [(6, .int (nI 1)), (0, .ref b), (1, .ref (q 0)), (2, .ref (q' 0)), (3, .ref o), (4, .ref o2), (5, .int (nI i))]) hx hb dL_law_547 hl (by decide) rfl (fun ls hl => ?_)
    refine lv_aload_n hx hb dL_law_549 rfl (lv_at hl 3 rfl) ?_
    refine lv_aload_n hx hb dL_law_550 rfl (lv_at hl 1 rfl) ?_
    refine lv_iload hx hb dL_law_551 (lv_at hl 6 rfl) ?_
    refine lv_iconst (v := nI 1) hx hb dL_law_553 (by decide) ?_
    refine w_iadd hx hb dL_law_554 ?_
    refine w_scr hx hb hXs hbl hS (k := i + 1) (v := y1) hy1.symm (by omega) hL dL_law_555 ?_
    refine va_calli (va_runV (As := [.int y1]) (rest := []) S (c_X1_excessx hn h hq') (cwV 1 hts gL_law_X1_excess rfl rfl rfl hdX1_excess ⟨Nat.le_of_ble_eq_true rfl, Nat.le_of_ble_eq_true rfl⟩) (preV hK2 hPm rfl rfl) rfl rfl hl.1 rfl (lv_room (Nat.le_of_ble_eq_true rfl)) dL_law_556 ⟨hc.1, hc.2⟩) hS (fun _ _ h => hA2 _ h) (fun _ h => hA2 _ h) (fun r2 u2 t H locs ht hvm hw2 hB hz hk hS => ?_)
    have hPx := keepA hPx (D12_of hd rfl) (fun x h1 h2 => hdis x h2 h1) hk
    replace hB : va_P D cls2 (mW q' cI cD (nI 1) (nI n) rC hh gi go gw ge gr gf gp gl gc) t.heap := hB
    rw [ht] at hB
    have hPm := hB
    refine lv_istore (lv' := [(7, .int r2), (6, .int (nI 1)), (0, .ref b), (1, .ref (q 0)), (2, .ref (q' 0)), (3, .ref o), (4, .ref o2), (5, .int (nI i))]) hx hb dL_law_559 hl (by decide) rfl (fun ls hl => ?_)
    refine lv_aload_n hx hb dL_law_561 rfl (lv_at hl 4 rfl) ?_
    refine vp_callSi (W.runV (As := []) (rest := []) S (c_X1_thrown) (cwV 0 hts gL_law_X1_thrown rfl rfl rfl hdX1_thrown ⟨Nat.le_of_ble_eq_true rfl, Nat.le_of_ble_eq_true rfl⟩) (preV hK2 hPm rfl rfl) rfl rfl hl.1 rfl (lv_room (Nat.le_of_ble_eq_true rfl)) dL_law_562 ⟨hc.1, hc.2⟩) (fun r3 er3 => ?_)
    subst er3
    refine lv_iload hx hb dL_law_565 (lv_at hl 1 rfl) ?_
    refine lv_icmp_eq (tgt := 572) hx hb dL_law_567 (by decide) (fun _ => ?_) (fun h => absurd rfl h)
    refine lv_iload hx hb dL_law_572 (lv_at hl 1 rfl) ?_
    refine lv_if_ne (tgt := 589) hx hb dL_law_574 (by decide) (fun h574_0 => ?_) (fun h574_0 => absurd h574_0 (by decide))
    refine lv_goto (tgt := 1355) hx hb dL_law_589 (by decide) ?_
    exact K n rC inf out w e _ _ _ hOK ⟨_, _, _, _, _, _, _, _, _, _, _, hPx, hI, hO, hW, hE, _, hT, hT2⟩ ⟨_, _, _, _, _, _, _, _, _, _, _, hPm, hI', hO', hW', hE'⟩ hS (lv_sub hl [2, 3, 4, 5, 6, 7] rfl)
set_option maxHeartbeats 8000000 in
set_option maxRecDepth 100000 in
theorem law_10 {p : Program} {l : Launch} {e9 : Env} {s : State} {m : MethodId} {below : List Frame} {meth : Method} {c : Code} {b L : Nat} {xs : Nat → Int32} {D : va_G} {q q' : Nat → Nat} {o o2 : Nat} {cI cD cJ : ClassId} {sa : Nat → Nat} {i cells slots : Nat} {Q : State → Prop} (C : LCx p l s m meth c b L xs D q q' o o2 cI cD cJ sa) (hi : i + 4 < L) (hc : cells + 1 ≤ 3098 ∧ slots + 6 ≤ 119182) (K : LK p l e9 s m below meth c b D q q' o o2 cI cD cJ i cells slots Q)
    {n : Nat} {rC : Int32} {inf out : Nat → Int32} {w : Nat → Nat → Int32} {e : Nat → Nat → UInt64} {H : Heap} {locs : List Loc} {ls : Array Slot} (hOK : OKs n inf out w e) (hX : LX D q o o2 cI cD cJ n rC inf out w e H) (hM : LM D q' cI cD n rC inf out w e H) (hS : va_S (fun x : Nat => s.heap.size ≤ x) s.heap H locs) (hl : lv_has ls 10 (lvL q q' b o o2 i)) : W p l e9 room_1 s m #[Value.ref b] below meth c H locs cells slots Q (F0 m 592 ls []) := by
  obtain ⟨S, ⟨hr, hlocks⟩, hK, ⟨hd, hq', hdis⟩, ⟨hXs, hbl, hL⟩, hA1, hA2, hG, hlt⟩ := C
  obtain ⟨hx, hb, hml, hown, hts⟩ := id S
  obtain ⟨fi, fo, fw, fe, ft, fr, fp, fl, ff, f1, f2, hPx, hI, hO, hW, hE, T, hT, hT2⟩ := hX
  obtain ⟨th, hh, gi, go, gw, ge, gr, gf, gp, gl, gc, hPm, hI', hO', hW', hE'⟩ := hM
  have hK2 : va_K D cls2 (tys2 cI cD) s := hK.sub [0, 1] rfl
  have hq := hd.1
  obtain ⟨hn, hbI, hbO, hbW, hgE⟩ := id hOK
  obtain ⟨y1, hy1⟩ : ∃ y, y = xs (i + 1) := ⟨_, rfl⟩
  by_cases h : wth y1 (nI 1) (nI 50) = true
  · obtain ⟨m0, hm1, hm2, rfl⟩ := wth_t (by decide) h (by decide)
    refine lv_aload_n hx hb dL_law_592 rfl (lv_at hl 1 rfl) ?_
    refine lv_aload_n hx hb dL_law_593 rfl (lv_at hl 0 rfl) ?_
    refine lv_iload hx hb dL_law_594 (lv_at hl 5 rfl) ?_
    refine lv_iconst (v := nI 1) hx hb dL_law_596 (by decide) ?_
    refine w_iadd hx hb dL_law_597 ?_
    refine w_scr hx hb hXs hbl hS (k := i + 1) (v := nI m0) hy1.symm (by omega) hL dL_law_598 ?_
    refine lv_aload_n hx hb dL_law_599 rfl (lv_at hl 3 rfl) ?_
    refine va_calli (vx_runSW (As := [.ref (q 0), .int (nI m0), .ref o]) (rest := []) S (k_L_iterate (c_X0_iterate hn hI hO hE ⟨hm1, hm2⟩ (fun k _ => (ge_rndK hn hbI hbO hgE k).2) hq) (fun _ => rfl) hd) (vx_cwSW 3 hts gL_law_L_iterate rfl rfl rfl hdL_iterate ⟨Nat.le_of_ble_eq_true rfl, Nat.le_of_ble_eq_true rfl⟩) (preSP hK hPx) rfl rfl hl.1 rfl (lv_room (Nat.le_of_ble_eq_true rfl)) dL_law_600 ⟨Nat.le_trans (Nat.le_succ _) hc.1, Nat.le_trans (Nat.le_add_right _ 6) hc.2⟩) hS (fun _ _ h => hA1 _ h) (fun _ h => hA1 _ h) (fun r1 u1 t H locs ht hvm hw hB hz hk hS => ?_)
    have hPm := keepA hPm (wD_of hq' rfl) hdis hk
    obtain ⟨hw0, hw⟩ := hw
    subst hw0
    replace hB : va_P D cls2 (cW q cI cD (nI n) (rC + nI m0) fi fo fw u1.2 ft fr fp fl ff ++ oW o o2 cJ cD (vp_updL f1 0 (Int32.toInt64 u1.1)) f2) t.heap := hB
    rw [ht] at hB
    have hPx := hB
    obtain ⟨hr1, hE⟩ := hw
    rw [hr1] at hPx
    refine lv_istore (lv' := [(6, .int (nI 0)), (0, .ref b), (1, .ref (q 0)), (2, .ref (q' 0)), (3, .ref o), (4, .ref o2), (5, .int (nI i))]) hx hb dL_law_603 hl (by decide) rfl (fun ls hl => ?_)
    refine lv_aload_n hx hb dL_law_605 rfl (lv_at hl 3 rfl) ?_
    refine lv_aload_n hx hb dL_law_606 rfl (lv_at hl 1 rfl) ?_
    refine lv_iload hx hb dL_law_607 (lv_at hl 6 rfl) ?_
    refine lv_iconst (v := nI 1) hx hb dL_law_609 (by decide) ?_
    refine w_iadd hx hb dL_law_610 ?_
    refine w_scr hx hb hXs hbl hS (k := i + 1) (v := nI m0) hy1.symm (by omega) hL dL_law_611 ?_
    refine va_calli (va_runV (As := [.int (nI m0)]) (rest := []) S (c_X1_iterate hn hI' hO' hE' ⟨hm1, hm2⟩ (fun k _ => (ge_rndK hn hbI hbO hgE k).2) hq') (cwV 1 hts gL_law_X1_iterate rfl rfl rfl hdX1_iterate ⟨Nat.le_of_ble_eq_true rfl, Nat.le_of_ble_eq_true rfl⟩) (preV hK2 hPm rfl rfl) rfl rfl hl.1 rfl (lv_room (Nat.le_of_ble_eq_true rfl)) dL_law_612 ⟨Nat.le_trans (Nat.le_succ _) hc.1, Nat.le_trans (Nat.le_add_right _ 6) hc.2⟩) hS (fun _ _ h => hA2 _ h) (fun _ h => hA2 _ h) (fun r2 u2 t H locs ht hvm hw2 hB hz hk hS => ?_)
    have hPx := keepA hPx (D12_of hd rfl) (fun x h1 h2 => hdis x h2 h1) hk
    replace hB : va_P D cls2 (mW q' cI cD (nI 0) (nI n) (rC + nI m0) hh gi go gw u2 gr gf gp gl gc) t.heap := hB
    rw [ht] at hB
    have hPm := hB
    obtain ⟨hr2, hE'⟩ := hw2
    rw [hr2]
    refine lv_istore (lv' := [(7, .int (rC + nI m0)), (6, .int (nI 0)), (0, .ref b), (1, .ref (q 0)), (2, .ref (q' 0)), (3, .ref o), (4, .ref o2), (5, .int (nI i))]) hx hb dL_law_615 hl (by decide) rfl (fun ls hl => ?_)
    refine lv_aload_n hx hb dL_law_617 rfl (lv_at hl 4 rfl) ?_
    refine vp_callSi (W.runV (As := []) (rest := []) S (c_X1_thrown) (cwV 0 hts gL_law_X1_thrown rfl rfl rfl hdX1_thrown ⟨Nat.le_of_ble_eq_true rfl, Nat.le_of_ble_eq_true rfl⟩) (preV hK2 hPm rfl rfl) rfl rfl hl.1 rfl (lv_room (Nat.le_of_ble_eq_true rfl)) dL_law_618 ⟨Nat.le_trans (Nat.le_succ _) hc.1, Nat.le_trans (Nat.le_add_right _ 6) hc.2⟩) (fun r3 er3 => ?_)
    subst er3
    refine lv_iload hx hb dL_law_621 (lv_at hl 1 rfl) ?_
    refine lv_icmp_eq (tgt := 628) hx hb dL_law_623 (by decide) (fun _ => ?_) (fun h => absurd rfl h)
    refine lv_iload hx hb dL_law_628 (lv_at hl 1 rfl) ?_
    refine lv_if_ne (tgt := 645) hx hb dL_law_630 (by decide) (fun h630_0 => absurd (by decide) h630_0) (fun h630_0 => ?_)
    refine lv_aload_n hx hb dL_law_633 rfl (lv_at hl 5 rfl) ?_
    refine lv_iconst (v := nI 0) hx hb dL_law_634 (by decide) ?_
    refine w_lald hx hb hK hPx 10 2 rfl rfl (j := 0) (v := Int32.toInt64 (rC + nI m0)) (updL_self _ _ _) (by decide) (by decide) dL_law_635 ?_
    refine lv_iload hx hb dL_law_636 (lv_at hl 0 rfl) ?_
    refine lv_i2l hx hb dL_law_638 rfl ?_
    refine w_lcmp0 hx hb dL_law_639 ?_
    refine lv_if_eq (tgt := 645) hx hb dL_law_640 (by decide) (fun h640_1 => ?_) (fun h640_1 => absurd (by decide) h640_1)
    refine lv_goto (tgt := 1355) hx hb dL_law_645 (by decide) ?_
    refine W.widen (k := cells + 1) (n := slots + 6) (Nat.le_succ _) (Nat.le_add_right _ 6) ?_
    exact K n (rC + nI m0) inf out w (rndK n inf out m0 e) _ _ _ ⟨hn, hbI, hbO, hbW, (ge_rndK hn hbI hbO hgE m0).1⟩ ⟨_, _, _, _, _, _, _, _, _, _, _, hPx, hI, hO, hW, hE, _, hT, hT2⟩ ⟨_, _, _, _, _, _, _, _, _, _, _, hPm, hI', hO', hW', hE'⟩ hS (lv_sub hl [2, 3, 4, 5, 6, 7] rfl)
  · replace h := Bool.not_eq_true _ |>.mp h
    refine lv_aload_n hx hb dL_law_592 rfl (lv_at hl 1 rfl) ?_
    refine lv_aload_n hx hb dL_law_593 rfl (lv_at hl 0 rfl) ?_
    refine lv_iload hx hb dL_law_594 (lv_at hl 5 rfl) ?_
    refine lv_iconst (v := nI 1) hx hb dL_law_596 (by decide) ?_
    refine w_iadd hx hb dL_law_597 ?_
    refine w_scr hx hb hXs hbl hS (k := i + 1) (v := y1) hy1.symm (by omega) hL dL_law_598 ?_
    refine lv_aload_n hx hb dL_law_599 rfl (lv_at hl 3 rfl) ?_
    refine va_calli (vx_runSW (As := [.ref (q 0), .int y1, .ref o]) (rest := []) S (z_L_iterate1 ⟨rfl, rfl, Nat.le_of_ble_eq_true rfl, Nat.le_of_ble_eq_true rfl⟩ (x_X0_iterate hlt h)) (vx_cwSW 3 hts gL_law_L_iterate rfl rfl rfl hdL_iterate ⟨Nat.le_of_ble_eq_true rfl, Nat.le_of_ble_eq_true rfl⟩) (preSX hK hPx (xG.keep hG hS)) rfl rfl hl.1 rfl (lv_room (Nat.le_of_ble_eq_true rfl)) dL_law_600 ⟨hc.1, hc.2⟩) hS (fun _ _ h => h.elim) (fun _ h => h.elim) (fun r1 u1 t H locs ht hvm hw hB hz hk hS => ?_)
    have hPm := keepA hPm (wD_of hq' rfl) (fun x _ h => h) hk
    replace hw : r1 = nI 1 := hw
    subst hw
    replace hB : va_P D cls2 (cW q cI cD (nI n) rC fi fo fw fe ft fr fp fl ff ++ oW o o2 cJ cD f1 f2) t.heap := hB
    rw [ht] at hB
    have hPx := hB
    refine lv_istore (lv' := [(6, .int (nI 1)), (0, .ref b), (1, .ref (q 0)), (2, .ref (q' 0)), (3, .ref o), (4, .ref o2), (5, .int (nI i))]) hx hb dL_law_603 hl (by decide) rfl (fun ls hl => ?_)
    refine lv_aload_n hx hb dL_law_605 rfl (lv_at hl 3 rfl) ?_
    refine lv_aload_n hx hb dL_law_606 rfl (lv_at hl 1 rfl) ?_
    refine lv_iload hx hb dL_law_607 (lv_at hl 6 rfl) ?_
    refine lv_iconst (v := nI 1) hx hb dL_law_609 (by decide) ?_
    refine w_iadd hx hb dL_law_610 ?_
    refine w_scr hx hb hXs hbl hS (k := i + 1) (v := y1) hy1.symm (by omega) hL dL_law_611 ?_
    refine va_calli (va_runV (As := [.int y1]) (rest := []) S (c_X1_iteratex hn h hq') (cwV 1 hts gL_law_X1_iterate rfl rfl rfl hdX1_iterate ⟨Nat.le_of_ble_eq_true rfl, Nat.le_of_ble_eq_true rfl⟩) (preV hK2 hPm rfl rfl) rfl rfl hl.1 rfl (lv_room (Nat.le_of_ble_eq_true rfl)) dL_law_612 ⟨hc.1, hc.2⟩) hS (fun _ _ h => hA2 _ h) (fun _ h => hA2 _ h) (fun r2 u2 t H locs ht hvm hw2 hB hz hk hS => ?_)
    have hPx := keepA hPx (D12_of hd rfl) (fun x h1 h2 => hdis x h2 h1) hk
    replace hB : va_P D cls2 (mW q' cI cD (nI 1) (nI n) rC hh gi go gw ge gr gf gp gl gc) t.heap := hB
    rw [ht] at hB
    have hPm := hB
    refine lv_istore (lv' := [(7, .int r2), (6, .int (nI 1)), (0, .ref b), (1, .ref (q 0)), (2, .ref (q' 0)), (3, .ref o), (4, .ref o2), (5, .int (nI i))]) hx hb dL_law_615 hl (by decide) rfl (fun ls hl => ?_)
    refine lv_aload_n hx hb dL_law_617 rfl (lv_at hl 4 rfl) ?_
    refine vp_callSi (W.runV (As := []) (rest := []) S (c_X1_thrown) (cwV 0 hts gL_law_X1_thrown rfl rfl rfl hdX1_thrown ⟨Nat.le_of_ble_eq_true rfl, Nat.le_of_ble_eq_true rfl⟩) (preV hK2 hPm rfl rfl) rfl rfl hl.1 rfl (lv_room (Nat.le_of_ble_eq_true rfl)) dL_law_618 ⟨hc.1, hc.2⟩) (fun r3 er3 => ?_)
    subst er3
    refine lv_iload hx hb dL_law_621 (lv_at hl 1 rfl) ?_
    refine lv_icmp_eq (tgt := 628) hx hb dL_law_623 (by decide) (fun _ => ?_) (fun h => absurd rfl h)
    refine lv_iload hx hb dL_law_628 (lv_at hl 1 rfl) ?_
    refine lv_if_ne (tgt := 645) hx hb dL_law_630 (by decide) (fun h630_0 => ?_) (fun h630_0 => absurd h630_0 (by decide))
    refine lv_goto (tgt := 1355) hx hb dL_law_645 (by decide) ?_
    exact K n rC inf out w e _ _ _ hOK ⟨_, _, _, _, _, _, _, _, _, _, _, hPx, hI, hO, hW, hE, _, hT, hT2⟩ ⟨_, _, _, _, _, _, _, _, _, _, _, hPm, hI', hO', hW', hE'⟩ hS (lv_sub hl [2, 3, 4, 5, 6, 7] rfl)
set_option maxHeartbeats 8000000 in
set_option maxRecDepth 100000 in
theorem law_11 {p : Program} {l : Launch} {e9 : Env} {s : State} {m : MethodId} {below : List Frame} {meth : Method} {c : Code} {b L : Nat} {xs : Nat → Int32} {D : va_G} {q q' : Nat → Nat} {o o2 : Nat} {cI cD cJ : ClassId} {sa : Nat → Nat} {i cells slots : Nat} {Q : State → Prop} (C : LCx p l s m meth c b L xs D q q' o o2 cI cD cJ sa) (hi : i + 4 < L) (hc : cells + 1 ≤ 3098 ∧ slots + 6 ≤ 119182) (K : LK p l e9 s m below meth c b D q q' o o2 cI cD cJ i cells slots Q)
    {n : Nat} {rC : Int32} {inf out : Nat → Int32} {w : Nat → Nat → Int32} {e : Nat → Nat → UInt64} {H : Heap} {locs : List Loc} {ls : Array Slot} (hOK : OKs n inf out w e) (hX : LX D q o o2 cI cD cJ n rC inf out w e H) (hM : LM D q' cI cD n rC inf out w e H) (hS : va_S (fun x : Nat => s.heap.size ≤ x) s.heap H locs) (hl : lv_has ls 10 (lvL q q' b o o2 i)) : W p l e9 room_1 s m #[Value.ref b] below meth c H locs cells slots Q (F0 m 648 ls []) := by
  obtain ⟨S, ⟨hr, hlocks⟩, hK, ⟨hd, hq', hdis⟩, ⟨hXs, hbl, hL⟩, hA1, hA2, hG, hlt⟩ := C
  obtain ⟨hx, hb, hml, hown, hts⟩ := id S
  obtain ⟨fi, fo, fw, fe, ft, fr, fp, fl, ff, f1, f2, hPx, hI, hO, hW, hE, T, hT, hT2⟩ := hX
  obtain ⟨th, hh, gi, go, gw, ge, gr, gf, gp, gl, gc, hPm, hI', hO', hW', hE'⟩ := hM
  have hK2 : va_K D cls2 (tys2 cI cD) s := hK.sub [0, 1] rfl
  have hq := hd.1
  obtain ⟨hn, hbI, hbO, hbW, hgE⟩ := id hOK
  obtain ⟨y1, hy1⟩ : ∃ y, y = xs (i + 1) := ⟨_, rfl⟩
  obtain ⟨y2, hy2⟩ : ∃ y, y = xs (i + 2) := ⟨_, rfl⟩
  by_cases h1 : wth y1 (nI 0) (nI 100000) = true
  · have hz0 := hn
    by_cases h2 : wth y2 (nI 1) (nI 100) = true
    · obtain ⟨t0, -, ht0, rfl⟩ := wth_t (by decide) h1 (by decide)
      obtain ⟨m0, hm1, hm2, rfl⟩ := wth_t (by decide) h2 (by decide)
      refine lv_aload_n hx hb dL_law_648 rfl (lv_at hl 1 rfl) ?_
      refine lv_aload_n hx hb dL_law_649 rfl (lv_at hl 0 rfl) ?_
      refine lv_iload hx hb dL_law_650 (lv_at hl 5 rfl) ?_
      refine lv_iconst (v := nI 1) hx hb dL_law_652 (by decide) ?_
      refine w_iadd hx hb dL_law_653 ?_
      refine w_scr hx hb hXs hbl hS (k := i + 1) (v := nI t0) hy1.symm (by omega) hL dL_law_654 ?_
      refine lv_aload_n hx hb dL_law_655 rfl (lv_at hl 0 rfl) ?_
      refine lv_iload hx hb dL_law_656 (lv_at hl 5 rfl) ?_
      refine lv_iconst (v := nI 2) hx hb dL_law_658 (by decide) ?_
      refine w_iadd hx hb dL_law_659 ?_
      refine w_scr hx hb hXs hbl hS (k := i + 2) (v := nI m0) hy2.symm (by omega) hL dL_law_660 ?_
      refine lv_aload_n hx hb dL_law_661 rfl (lv_at hl 3 rfl) ?_
      refine va_calli (vx_runSW (As := [.ref (q 0), .int (nI t0), .int (nI m0), .ref o]) (rest := []) S (k_L_fit (c_X0_fit hn hI hO hE (tt := t0) ht0 ⟨hm1, hm2⟩ (dvT_v ht0) (fun k _ => ⟨(ge_rndK hn hbI hbO hgE k).2, ge_okM hn hbI hbO (ge_rndK hn hbI hbO hgE k).1⟩) hq) (fun _ => rfl) hd) (vx_cwSW 4 hts gL_law_L_fit rfl rfl rfl hdL_fit ⟨Nat.le_of_ble_eq_true rfl, Nat.le_of_ble_eq_true rfl⟩) (preSP hK hPx) rfl rfl hl.1 rfl (lv_room (Nat.le_of_ble_eq_true rfl)) dL_law_662 ⟨Nat.le_trans (Nat.le_succ _) hc.1, Nat.le_trans (Nat.le_add_right _ 6) hc.2⟩) hS (fun _ _ h => hA1 _ h) (fun _ h => hA1 _ h) (fun r1 u1 t H locs ht hvm hw hB hz hk hS => ?_)
      have hPm := keepA hPm (wD_of hq' rfl) hdis hk
      obtain ⟨hw0, hw⟩ := hw
      subst hw0
      replace hB : va_P D cls2 (cW q cI cD (nI n) (rC + nI (fitF n inf out (dvT (nI t0)) m0 0 e)) fi fo fw u1.2 ft fr fp fl ff ++ oW o o2 cJ cD (vp_updL f1 0 (Int32.toInt64 u1.1)) f2) t.heap := hB
      rw [ht] at hB
      have hPx := hB
      obtain ⟨hr1, hE⟩ := hw
      rw [hr1] at hPx
      refine lv_istore (lv' := [(6, .int (nI 0)), (0, .ref b), (1, .ref (q 0)), (2, .ref (q' 0)), (3, .ref o), (4, .ref o2), (5, .int (nI i))]) hx hb dL_law_665 hl (by decide) rfl (fun ls hl => ?_)
      refine lv_aload_n hx hb dL_law_667 rfl (lv_at hl 3 rfl) ?_
      refine lv_aload_n hx hb dL_law_668 rfl (lv_at hl 1 rfl) ?_
      refine lv_iload hx hb dL_law_669 (lv_at hl 6 rfl) ?_
      refine lv_iconst (v := nI 1) hx hb dL_law_671 (by decide) ?_
      refine w_iadd hx hb dL_law_672 ?_
      refine w_scr hx hb hXs hbl hS (k := i + 1) (v := nI t0) hy1.symm (by omega) hL dL_law_673 ?_
      refine lv_aload_n hx hb dL_law_674 rfl (lv_at hl 1 rfl) ?_
      refine lv_iload hx hb dL_law_675 (lv_at hl 6 rfl) ?_
      refine lv_iconst (v := nI 2) hx hb dL_law_677 (by decide) ?_
      refine w_iadd hx hb dL_law_678 ?_
      refine w_scr hx hb hXs hbl hS (k := i + 2) (v := nI m0) hy2.symm (by omega) hL dL_law_679 ?_
      refine va_calli (va_runV (As := [.int (nI t0), .int (nI m0)]) (rest := []) S (c_X1_fit hn hI' hO' hE' (tt := t0) ht0 ⟨hm1, hm2⟩ (dvT_v ht0) (fun k _ => ⟨(ge_rndK hn hbI hbO hgE k).2, ge_okF hn hbI hbO (ge_rndK hn hbI hbO hgE k).1⟩) hq') (cwV 2 hts gL_law_X1_fit rfl rfl rfl hdX1_fit ⟨Nat.le_of_ble_eq_true rfl, Nat.le_of_ble_eq_true rfl⟩) (preV hK2 hPm rfl rfl) rfl rfl hl.1 rfl (lv_room (Nat.le_of_ble_eq_true rfl)) dL_law_680 ⟨Nat.le_trans (Nat.le_succ _) hc.1, Nat.le_trans (Nat.le_add_right _ 6) hc.2⟩) hS (fun _ _ h => hA2 _ h) (fun _ h => hA2 _ h) (fun r2 u2 t H locs ht hvm hw2 hB hz hk hS => ?_)
      have hPx := keepA hPx (D12_of hd rfl) (fun x h1 h2 => hdis x h2 h1) hk
      replace hB : va_P D cls2 (mW q' cI cD (nI 0) (nI n) (rC + nI (fitF n inf out (dvT (nI t0)) m0 0 e)) hh gi go gw u2 gr gf gp gl gc) t.heap := hB
      rw [ht] at hB
      have hPm := hB
      obtain ⟨hr2, hE'⟩ := hw2
      rw [hr2]
      refine lv_istore (lv' := [(7, .int (nI (fitF n inf out (dvT (nI t0)) m0 0 e))), (6, .int (nI 0)), (0, .ref b), (1, .ref (q 0)), (2, .ref (q' 0)), (3, .ref o), (4, .ref o2), (5, .int (nI i))]) hx hb dL_law_683 hl (by decide) rfl (fun ls hl => ?_)
      refine lv_aload_n hx hb dL_law_685 rfl (lv_at hl 4 rfl) ?_
      refine vp_callSi (W.runV (As := []) (rest := []) S (c_X1_thrown) (cwV 0 hts gL_law_X1_thrown rfl rfl rfl hdX1_thrown ⟨Nat.le_of_ble_eq_true rfl, Nat.le_of_ble_eq_true rfl⟩) (preV hK2 hPm rfl rfl) rfl rfl hl.1 rfl (lv_room (Nat.le_of_ble_eq_true rfl)) dL_law_686 ⟨Nat.le_trans (Nat.le_succ _) hc.1, Nat.le_trans (Nat.le_add_right _ 6) hc.2⟩) (fun r3 er3 => ?_)
      subst er3
      refine lv_iload hx hb dL_law_689 (lv_at hl 1 rfl) ?_
      refine lv_icmp_eq (tgt := 696) hx hb dL_law_691 (by decide) (fun _ => ?_) (fun h => absurd rfl h)
      refine lv_iload hx hb dL_law_696 (lv_at hl 1 rfl) ?_
      refine lv_if_ne (tgt := 713) hx hb dL_law_698 (by decide) (fun h698_0 => absurd (by decide) h698_0) (fun h698_0 => ?_)
      refine lv_aload_n hx hb dL_law_701 rfl (lv_at hl 5 rfl) ?_
      refine lv_iconst (v := nI 0) hx hb dL_law_702 (by decide) ?_
      refine w_lald hx hb hK hPx 10 2 rfl rfl (j := 0) (v := Int32.toInt64 (nI (fitF n inf out (dvT (nI t0)) m0 0 e))) (updL_self _ _ _) (by decide) (by decide) dL_law_703 ?_
      refine lv_iload hx hb dL_law_704 (lv_at hl 0 rfl) ?_
      refine lv_i2l hx hb dL_law_706 rfl ?_
      refine w_lcmp0 hx hb dL_law_707 ?_
      refine lv_if_eq (tgt := 713) hx hb dL_law_708 (by decide) (fun h708_1 => ?_) (fun h708_1 => absurd (by decide) h708_1)
      refine lv_goto (tgt := 1355) hx hb dL_law_713 (by decide) ?_
      refine W.widen (k := cells + 1) (n := slots + 6) (Nat.le_succ _) (Nat.le_add_right _ 6) ?_
      exact K n (rC + nI (fitF n inf out (dvT (nI t0)) m0 0 e)) inf out w (rndK n inf out (fitF n inf out (dvT (nI t0)) m0 0 e) e) _ _ _ ⟨hn, hbI, hbO, hbW, (ge_rndK hn hbI hbO hgE _).1⟩ ⟨_, _, _, _, _, _, _, _, _, _, _, hPx, hI, hO, hW, hE, _, hT, hT2⟩ ⟨_, _, _, _, _, _, _, _, _, _, _, hPm, hI', hO', hW', hE'⟩ hS (lv_sub hl [2, 3, 4, 5, 6, 7] rfl)
    · replace h2 := Bool.not_eq_true _ |>.mp h2
      refine lv_aload_n hx hb dL_law_648 rfl (lv_at hl 1 rfl) ?_
      refine lv_aload_n hx hb dL_law_649 rfl (lv_at hl 0 rfl) ?_
      refine lv_iload hx hb dL_law_650 (lv_at hl 5 rfl) ?_
      refine lv_iconst (v := nI 1) hx hb dL_law_652 (by decide) ?_
      refine w_iadd hx hb dL_law_653 ?_
      refine w_scr hx hb hXs hbl hS (k := i + 1) (v := y1) hy1.symm (by omega) hL dL_law_654 ?_
      refine lv_aload_n hx hb dL_law_655 rfl (lv_at hl 0 rfl) ?_
      refine lv_iload hx hb dL_law_656 (lv_at hl 5 rfl) ?_
      refine lv_iconst (v := nI 2) hx hb dL_law_658 (by decide) ?_
      refine w_iadd hx hb dL_law_659 ?_
      refine w_scr hx hb hXs hbl hS (k := i + 2) (v := y2) hy2.symm (by omega) hL dL_law_660 ?_
      refine lv_aload_n hx hb dL_law_661 rfl (lv_at hl 3 rfl) ?_
      refine va_calli (vx_runSW (As := [.ref (q 0), .int y1, .int y2, .ref o]) (rest := []) S (z_L_fit1 ⟨rfl, rfl, Nat.le_of_ble_eq_true rfl, Nat.le_of_ble_eq_true rfl⟩ (x_X0_fit2 hlt h1 h2)) (vx_cwSW 4 hts gL_law_L_fit rfl rfl rfl hdL_fit ⟨Nat.le_of_ble_eq_true rfl, Nat.le_of_ble_eq_true rfl⟩) (preSX hK hPx (xG.keep hG hS)) rfl rfl hl.1 rfl (lv_room (Nat.le_of_ble_eq_true rfl)) dL_law_662 ⟨hc.1, hc.2⟩) hS (fun _ _ h => h.elim) (fun _ h => h.elim) (fun r1 u1 t H locs ht hvm hw hB hz hk hS => ?_)
      have hPm := keepA hPm (wD_of hq' rfl) (fun x _ h => h) hk
      replace hw : r1 = nI 1 := hw
      subst hw
      replace hB : va_P D cls2 (cW q cI cD (nI n) rC fi fo fw fe ft fr fp fl ff ++ oW o o2 cJ cD f1 f2) t.heap := hB
      rw [ht] at hB
      have hPx := hB
      refine lv_istore (lv' := [(6, .int (nI 1)), (0, .ref b), (1, .ref (q 0)), (2, .ref (q' 0)), (3, .ref o), (4, .ref o2), (5, .int (nI i))]) hx hb dL_law_665 hl (by decide) rfl (fun ls hl => ?_)
      refine lv_aload_n hx hb dL_law_667 rfl (lv_at hl 3 rfl) ?_
      refine lv_aload_n hx hb dL_law_668 rfl (lv_at hl 1 rfl) ?_
      refine lv_iload hx hb dL_law_669 (lv_at hl 6 rfl) ?_
      refine lv_iconst (v := nI 1) hx hb dL_law_671 (by decide) ?_
      refine w_iadd hx hb dL_law_672 ?_
      refine w_scr hx hb hXs hbl hS (k := i + 1) (v := y1) hy1.symm (by omega) hL dL_law_673 ?_
      refine lv_aload_n hx hb dL_law_674 rfl (lv_at hl 1 rfl) ?_
      refine lv_iload hx hb dL_law_675 (lv_at hl 6 rfl) ?_
      refine lv_iconst (v := nI 2) hx hb dL_law_677 (by decide) ?_
      refine w_iadd hx hb dL_law_678 ?_
      refine w_scr hx hb hXs hbl hS (k := i + 2) (v := y2) hy2.symm (by omega) hL dL_law_679 ?_
      refine va_calli (va_runV (As := [.int y1, .int y2]) (rest := []) S (c_X1_fitx2 hn h1 h2 hq') (cwV 2 hts gL_law_X1_fit rfl rfl rfl hdX1_fit ⟨Nat.le_of_ble_eq_true rfl, Nat.le_of_ble_eq_true rfl⟩) (preV hK2 hPm rfl rfl) rfl rfl hl.1 rfl (lv_room (Nat.le_of_ble_eq_true rfl)) dL_law_680 ⟨hc.1, hc.2⟩) hS (fun _ _ h => hA2 _ h) (fun _ h => hA2 _ h) (fun r2 u2 t H locs ht hvm hw2 hB hz hk hS => ?_)
      have hPx := keepA hPx (D12_of hd rfl) (fun x h1 h2 => hdis x h2 h1) hk
      replace hB : va_P D cls2 (mW q' cI cD (nI 1) (nI n) rC hh gi go gw ge gr gf gp gl gc) t.heap := hB
      rw [ht] at hB
      have hPm := hB
      refine lv_istore (lv' := [(7, .int r2), (6, .int (nI 1)), (0, .ref b), (1, .ref (q 0)), (2, .ref (q' 0)), (3, .ref o), (4, .ref o2), (5, .int (nI i))]) hx hb dL_law_683 hl (by decide) rfl (fun ls hl => ?_)
      refine lv_aload_n hx hb dL_law_685 rfl (lv_at hl 4 rfl) ?_
      refine vp_callSi (W.runV (As := []) (rest := []) S (c_X1_thrown) (cwV 0 hts gL_law_X1_thrown rfl rfl rfl hdX1_thrown ⟨Nat.le_of_ble_eq_true rfl, Nat.le_of_ble_eq_true rfl⟩) (preV hK2 hPm rfl rfl) rfl rfl hl.1 rfl (lv_room (Nat.le_of_ble_eq_true rfl)) dL_law_686 ⟨hc.1, hc.2⟩) (fun r3 er3 => ?_)
      subst er3
      refine lv_iload hx hb dL_law_689 (lv_at hl 1 rfl) ?_
      refine lv_icmp_eq (tgt := 696) hx hb dL_law_691 (by decide) (fun _ => ?_) (fun h => absurd rfl h)
      refine lv_iload hx hb dL_law_696 (lv_at hl 1 rfl) ?_
      refine lv_if_ne (tgt := 713) hx hb dL_law_698 (by decide) (fun h698_0 => ?_) (fun h698_0 => absurd h698_0 (by decide))
      refine lv_goto (tgt := 1355) hx hb dL_law_713 (by decide) ?_
      exact K n rC inf out w e _ _ _ hOK ⟨_, _, _, _, _, _, _, _, _, _, _, hPx, hI, hO, hW, hE, _, hT, hT2⟩ ⟨_, _, _, _, _, _, _, _, _, _, _, hPm, hI', hO', hW', hE'⟩ hS (lv_sub hl [2, 3, 4, 5, 6, 7] rfl)
  · replace h1 := Bool.not_eq_true _ |>.mp h1
    refine lv_aload_n hx hb dL_law_648 rfl (lv_at hl 1 rfl) ?_
    refine lv_aload_n hx hb dL_law_649 rfl (lv_at hl 0 rfl) ?_
    refine lv_iload hx hb dL_law_650 (lv_at hl 5 rfl) ?_
    refine lv_iconst (v := nI 1) hx hb dL_law_652 (by decide) ?_
    refine w_iadd hx hb dL_law_653 ?_
    refine w_scr hx hb hXs hbl hS (k := i + 1) (v := y1) hy1.symm (by omega) hL dL_law_654 ?_
    refine lv_aload_n hx hb dL_law_655 rfl (lv_at hl 0 rfl) ?_
    refine lv_iload hx hb dL_law_656 (lv_at hl 5 rfl) ?_
    refine lv_iconst (v := nI 2) hx hb dL_law_658 (by decide) ?_
    refine w_iadd hx hb dL_law_659 ?_
    refine w_scr hx hb hXs hbl hS (k := i + 2) (v := y2) hy2.symm (by omega) hL dL_law_660 ?_
    refine lv_aload_n hx hb dL_law_661 rfl (lv_at hl 3 rfl) ?_
    refine va_calli (vx_runSW (As := [.ref (q 0), .int y1, .int y2, .ref o]) (rest := []) S (z_L_fit1 ⟨rfl, rfl, Nat.le_of_ble_eq_true rfl, Nat.le_of_ble_eq_true rfl⟩ (x_X0_fit1 hlt h1)) (vx_cwSW 4 hts gL_law_L_fit rfl rfl rfl hdL_fit ⟨Nat.le_of_ble_eq_true rfl, Nat.le_of_ble_eq_true rfl⟩) (preSX hK hPx (xG.keep hG hS)) rfl rfl hl.1 rfl (lv_room (Nat.le_of_ble_eq_true rfl)) dL_law_662 ⟨hc.1, hc.2⟩) hS (fun _ _ h => h.elim) (fun _ h => h.elim) (fun r1 u1 t H locs ht hvm hw hB hz hk hS => ?_)
    have hPm := keepA hPm (wD_of hq' rfl) (fun x _ h => h) hk
    replace hw : r1 = nI 1 := hw
    subst hw
    replace hB : va_P D cls2 (cW q cI cD (nI n) rC fi fo fw fe ft fr fp fl ff ++ oW o o2 cJ cD f1 f2) t.heap := hB
    rw [ht] at hB
    have hPx := hB
    refine lv_istore (lv' := [(6, .int (nI 1)), (0, .ref b), (1, .ref (q 0)), (2, .ref (q' 0)), (3, .ref o), (4, .ref o2), (5, .int (nI i))]) hx hb dL_law_665 hl (by decide) rfl (fun ls hl => ?_)
    refine lv_aload_n hx hb dL_law_667 rfl (lv_at hl 3 rfl) ?_
    refine lv_aload_n hx hb dL_law_668 rfl (lv_at hl 1 rfl) ?_
    refine lv_iload hx hb dL_law_669 (lv_at hl 6 rfl) ?_
    refine lv_iconst (v := nI 1) hx hb dL_law_671 (by decide) ?_
    refine w_iadd hx hb dL_law_672 ?_
    refine w_scr hx hb hXs hbl hS (k := i + 1) (v := y1) hy1.symm (by omega) hL dL_law_673 ?_
    refine lv_aload_n hx hb dL_law_674 rfl (lv_at hl 1 rfl) ?_
    refine lv_iload hx hb dL_law_675 (lv_at hl 6 rfl) ?_
    refine lv_iconst (v := nI 2) hx hb dL_law_677 (by decide) ?_
    refine w_iadd hx hb dL_law_678 ?_
    refine w_scr hx hb hXs hbl hS (k := i + 2) (v := y2) hy2.symm (by omega) hL dL_law_679 ?_
    refine va_calli (va_runV (As := [.int y1, .int y2]) (rest := []) S (c_X1_fitx1 hn h1 hq') (cwV 2 hts gL_law_X1_fit rfl rfl rfl hdX1_fit ⟨Nat.le_of_ble_eq_true rfl, Nat.le_of_ble_eq_true rfl⟩) (preV hK2 hPm rfl rfl) rfl rfl hl.1 rfl (lv_room (Nat.le_of_ble_eq_true rfl)) dL_law_680 ⟨hc.1, hc.2⟩) hS (fun _ _ h => hA2 _ h) (fun _ h => hA2 _ h) (fun r2 u2 t H locs ht hvm hw2 hB hz hk hS => ?_)
    have hPx := keepA hPx (D12_of hd rfl) (fun x h1 h2 => hdis x h2 h1) hk
    replace hB : va_P D cls2 (mW q' cI cD (nI 1) (nI n) rC hh gi go gw ge gr gf gp gl gc) t.heap := hB
    rw [ht] at hB
    have hPm := hB
    refine lv_istore (lv' := [(7, .int r2), (6, .int (nI 1)), (0, .ref b), (1, .ref (q 0)), (2, .ref (q' 0)), (3, .ref o), (4, .ref o2), (5, .int (nI i))]) hx hb dL_law_683 hl (by decide) rfl (fun ls hl => ?_)
    refine lv_aload_n hx hb dL_law_685 rfl (lv_at hl 4 rfl) ?_
    refine vp_callSi (W.runV (As := []) (rest := []) S (c_X1_thrown) (cwV 0 hts gL_law_X1_thrown rfl rfl rfl hdX1_thrown ⟨Nat.le_of_ble_eq_true rfl, Nat.le_of_ble_eq_true rfl⟩) (preV hK2 hPm rfl rfl) rfl rfl hl.1 rfl (lv_room (Nat.le_of_ble_eq_true rfl)) dL_law_686 ⟨hc.1, hc.2⟩) (fun r3 er3 => ?_)
    subst er3
    refine lv_iload hx hb dL_law_689 (lv_at hl 1 rfl) ?_
    refine lv_icmp_eq (tgt := 696) hx hb dL_law_691 (by decide) (fun _ => ?_) (fun h => absurd rfl h)
    refine lv_iload hx hb dL_law_696 (lv_at hl 1 rfl) ?_
    refine lv_if_ne (tgt := 713) hx hb dL_law_698 (by decide) (fun h698_0 => ?_) (fun h698_0 => absurd h698_0 (by decide))
    refine lv_goto (tgt := 1355) hx hb dL_law_713 (by decide) ?_
    exact K n rC inf out w e _ _ _ hOK ⟨_, _, _, _, _, _, _, _, _, _, _, hPx, hI, hO, hW, hE, _, hT, hT2⟩ ⟨_, _, _, _, _, _, _, _, _, _, _, hPm, hI', hO', hW', hE'⟩ hS (lv_sub hl [2, 3, 4, 5, 6, 7] rfl)
set_option maxHeartbeats 8000000 in
set_option maxRecDepth 100000 in
theorem law_14 {p : Program} {l : Launch} {e9 : Env} {s : State} {m : MethodId} {below : List Frame} {meth : Method} {c : Code} {b L : Nat} {xs : Nat → Int32} {D : va_G} {q q' : Nat → Nat} {o o2 : Nat} {cI cD cJ : ClassId} {sa : Nat → Nat} {i cells slots : Nat} {Q : State → Prop} (C : LCx p l s m meth c b L xs D q q' o o2 cI cD cJ sa) (hi : i + 4 < L) (hc : cells + 1 ≤ 3098 ∧ slots + 6 ≤ 119182) (K : LK p l e9 s m below meth c b D q q' o o2 cI cD cJ i cells slots Q)
    {n : Nat} {rC : Int32} {inf out : Nat → Int32} {w : Nat → Nat → Int32} {e : Nat → Nat → UInt64} {H : Heap} {locs : List Loc} {ls : Array Slot} (hOK : OKs n inf out w e) (hX : LX D q o o2 cI cD cJ n rC inf out w e H) (hM : LM D q' cI cD n rC inf out w e H) (hS : va_S (fun x : Nat => s.heap.size ≤ x) s.heap H locs) (hl : lv_has ls 10 (lvL q q' b o o2 i)) : W p l e9 room_1 s m #[Value.ref b] below meth c H locs cells slots Q (F0 m 742 ls []) := by
  obtain ⟨S, ⟨hr, hlocks⟩, hK, ⟨hd, hq', hdis⟩, ⟨hXs, hbl, hL⟩, hA1, hA2, hG, hlt⟩ := C
  obtain ⟨hx, hb, hml, hown, hts⟩ := id S
  obtain ⟨fi, fo, fw, fe, ft, fr, fp, fl, ff, f1, f2, hPx, hI, hO, hW, hE, T, hT, hT2⟩ := hX
  obtain ⟨th, hh, gi, go, gw, ge, gr, gf, gp, gl, gc, hPm, hI', hO', hW', hE'⟩ := hM
  have hK2 : va_K D cls2 (tys2 cI cD) s := hK.sub [0, 1] rfl
  have hq := hd.1
  obtain ⟨hn, hbI, hbO, hbW, hgE⟩ := id hOK
  obtain ⟨y1, hy1⟩ : ∃ y, y = xs (i + 1) := ⟨_, rfl⟩
  obtain ⟨y2, hy2⟩ : ∃ y, y = xs (i + 2) := ⟨_, rfl⟩
  by_cases h1 : armB n y1 = true
  · obtain ⟨i0, hi0, rfl⟩ := arm_t hn h1
    by_cases h2 : armB n y2 = true
    · obtain ⟨k0, hk0, rfl⟩ := arm_t hn h2
      refine lv_aload_n hx hb dL_law_742 rfl (lv_at hl 1 rfl) ?_
      refine lv_aload_n hx hb dL_law_743 rfl (lv_at hl 0 rfl) ?_
      refine lv_iload hx hb dL_law_744 (lv_at hl 5 rfl) ?_
      refine lv_iconst (v := nI 1) hx hb dL_law_746 (by decide) ?_
      refine w_iadd hx hb dL_law_747 ?_
      refine w_scr hx hb hXs hbl hS (k := i + 1) (v := nI i0) hy1.symm (by omega) hL dL_law_748 ?_
      refine lv_aload_n hx hb dL_law_749 rfl (lv_at hl 0 rfl) ?_
      refine lv_iload hx hb dL_law_750 (lv_at hl 5 rfl) ?_
      refine lv_iconst (v := nI 2) hx hb dL_law_752 (by decide) ?_
      refine w_iadd hx hb dL_law_753 ?_
      refine w_scr hx hb hXs hbl hS (k := i + 2) (v := nI k0) hy2.symm (by omega) hL dL_law_754 ?_
      refine lv_aload hx hb dL_law_755 (lv_at hl 4 rfl) ?_
      refine va_calli (vx_runSW (As := [.ref (q 0), .int (nI i0), .int (nI k0), .ref o2]) (rest := []) S (k_L_estimate (c_X0_estimate hn hE hi0 hk0) hd) (vx_cwSW 4 hts gL_law_L_estimate rfl rfl rfl hdL_estimate ⟨Nat.le_of_ble_eq_true rfl, Nat.le_of_ble_eq_true rfl⟩) (preSP hK hPx) rfl rfl hl.1 rfl (lv_room (Nat.le_of_ble_eq_true rfl)) dL_law_757 ⟨Nat.le_trans (Nat.le_succ _) hc.1, Nat.le_trans (Nat.le_add_right _ 6) hc.2⟩) hS (fun _ _ h => hA1 _ h) (fun _ h => hA1 _ h) (fun r1 u1 t H locs ht hvm hw hB hz hk hS => ?_)
      have hPm := keepA hPm (wD_of hq' rfl) hdis hk
      obtain ⟨hw0, hw⟩ := hw
      subst hw0
      replace hB : va_P D cls2 (cW q cI cD (nI n) rC fi fo fw fe ft fr fp fl ff ++ oW o o2 cJ cD f1 (vf_upd f2 0 u1)) t.heap := hB
      rw [ht] at hB
      have hPx := hB
      replace hw : u1 = e i0 k0 := hw
      rw [hw] at hPx
      refine lv_istore (lv' := [(6, .int (nI 0)), (0, .ref b), (1, .ref (q 0)), (2, .ref (q' 0)), (3, .ref o), (4, .ref o2), (5, .int (nI i))]) hx hb dL_law_760 hl (by decide) rfl (fun ls hl => ?_)
      refine lv_aload_n hx hb dL_law_762 rfl (lv_at hl 3 rfl) ?_
      refine lv_aload_n hx hb dL_law_763 rfl (lv_at hl 1 rfl) ?_
      refine lv_iload hx hb dL_law_764 (lv_at hl 6 rfl) ?_
      refine lv_iconst (v := nI 1) hx hb dL_law_766 (by decide) ?_
      refine w_iadd hx hb dL_law_767 ?_
      refine w_scr hx hb hXs hbl hS (k := i + 1) (v := nI i0) hy1.symm (by omega) hL dL_law_768 ?_
      refine lv_aload_n hx hb dL_law_769 rfl (lv_at hl 1 rfl) ?_
      refine lv_iload hx hb dL_law_770 (lv_at hl 6 rfl) ?_
      refine lv_iconst (v := nI 2) hx hb dL_law_772 (by decide) ?_
      refine w_iadd hx hb dL_law_773 ?_
      refine w_scr hx hb hXs hbl hS (k := i + 2) (v := nI k0) hy2.symm (by omega) hL dL_law_774 ?_
      refine va_calld (va_runV (As := [.int (nI i0), .int (nI k0)]) (rest := []) S (c_X1_estimate hn hE' hi0 hk0 hq') (cwV 2 hts gL_law_X1_estimate rfl rfl rfl hdX1_estimate ⟨Nat.le_of_ble_eq_true rfl, Nat.le_of_ble_eq_true rfl⟩) (preV hK2 hPm rfl rfl) rfl rfl hl.1 rfl (lv_room (Nat.le_of_ble_eq_true rfl)) dL_law_775 ⟨Nat.le_trans (Nat.le_succ _) hc.1, Nat.le_trans (Nat.le_add_right _ 6) hc.2⟩) hS (fun _ _ h => hA2 _ h) (fun _ h => hA2 _ h) (fun r2 u2 t H locs ht hvm hw2 hB hz hk hS => ?_)
      have hPx := keepA hPx (D12_of hd rfl) (fun x h1 h2 => hdis x h2 h1) hk
      replace hB : va_P D cls2 (mW q' cI cD (nI 0) (nI n) rC hh gi go gw ge gr gf gp gl gc) t.heap := hB
      rw [ht] at hB
      have hPm := hB
      replace hw2 : r2 = e i0 k0 := hw2
      rw [hw2]
      refine lv_dstore (lv' := [(7, .double (e i0 k0)), (6, .int (nI 0)), (0, .ref b), (1, .ref (q 0)), (2, .ref (q' 0)), (3, .ref o), (4, .ref o2), (5, .int (nI i))]) hx hb dL_law_778 hl (by decide) rfl (fun ls hl => ?_)
      refine lv_aload_n hx hb dL_law_780 rfl (lv_at hl 4 rfl) ?_
      refine vp_callSi (W.runV (As := []) (rest := []) S (c_X1_thrown) (cwV 0 hts gL_law_X1_thrown rfl rfl rfl hdX1_thrown ⟨Nat.le_of_ble_eq_true rfl, Nat.le_of_ble_eq_true rfl⟩) (preV hK2 hPm rfl rfl) rfl rfl hl.1 rfl (lv_room (Nat.le_of_ble_eq_true rfl)) dL_law_781 ⟨Nat.le_trans (Nat.le_succ _) hc.1, Nat.le_trans (Nat.le_add_right _ 6) hc.2⟩) (fun r3 er3 => ?_)
      subst er3
      refine lv_iload hx hb dL_law_784 (lv_at hl 1 rfl) ?_
      refine lv_icmp_eq (tgt := 791) hx hb dL_law_786 (by decide) (fun _ => ?_) (fun h => absurd rfl h)
      refine lv_iload hx hb dL_law_791 (lv_at hl 1 rfl) ?_
      refine lv_if_ne (tgt := 828) hx hb dL_law_793 (by decide) (fun h793_0 => absurd (by decide) h793_0) (fun h793_0 => ?_)
      refine lv_aload hx hb dL_law_796 (lv_at hl 6 rfl) ?_
      refine lv_iconst (v := nI 0) hx hb dL_law_798 (by decide) ?_
      refine w_dald hx hb hK hPx 11 1 rfl rfl (j := 0) (v := e i0 k0) (vfu0 _ _ _) (by decide) (by decide) dL_law_799 ?_
      refine lv_dload hx hb dL_law_800 (lv_at hl 0 rfl) ?_
      refine lv_dcmp hx hb dL_law_802 ?_
      rw [dcmp_same ((hgE.1 i0 k0 hi0 hk0).1.v)]
      refine lv_if_eq (tgt := 828) hx hb dL_law_803 (by decide) (fun h803_1 => ?_) (fun h803_1 => absurd (by decide) h803_1)
      refine lv_goto (tgt := 1355) hx hb dL_law_828 (by decide) ?_
      refine W.widen (k := cells + 1) (n := slots + 6) (Nat.le_succ _) (Nat.le_add_right _ 6) ?_
      exact K n rC inf out w e _ _ _ hOK ⟨_, _, _, _, _, _, _, _, _, _, _, hPx, hI, hO, hW, hE, _, hT, hT2⟩ ⟨_, _, _, _, _, _, _, _, _, _, _, hPm, hI', hO', hW', hE'⟩ hS (lv_sub hl [2, 3, 4, 5, 6, 7] rfl)
    · replace h2 := Bool.not_eq_true _ |>.mp h2
      refine lv_aload_n hx hb dL_law_742 rfl (lv_at hl 1 rfl) ?_
      refine lv_aload_n hx hb dL_law_743 rfl (lv_at hl 0 rfl) ?_
      refine lv_iload hx hb dL_law_744 (lv_at hl 5 rfl) ?_
      refine lv_iconst (v := nI 1) hx hb dL_law_746 (by decide) ?_
      refine w_iadd hx hb dL_law_747 ?_
      refine w_scr hx hb hXs hbl hS (k := i + 1) (v := nI i0) hy1.symm (by omega) hL dL_law_748 ?_
      refine lv_aload_n hx hb dL_law_749 rfl (lv_at hl 0 rfl) ?_
      refine lv_iload hx hb dL_law_750 (lv_at hl 5 rfl) ?_
      refine lv_iconst (v := nI 2) hx hb dL_law_752 (by decide) ?_
      refine w_iadd hx hb dL_law_753 ?_
      refine w_scr hx hb hXs hbl hS (k := i + 2) (v := y2) hy2.symm (by omega) hL dL_law_754 ?_
      refine lv_aload hx hb dL_law_755 (lv_at hl 4 rfl) ?_
      refine va_calli (vx_runSW (As := [.ref (q 0), .int (nI i0), .int y2, .ref o2]) (rest := []) S (z_L_estimate1 ⟨rfl, rfl, Nat.le_of_ble_eq_true rfl, Nat.le_of_ble_eq_true rfl⟩ (x_X0_estimate2 hlt hn hi0 h2)) (vx_cwSW 4 hts gL_law_L_estimate rfl rfl rfl hdL_estimate ⟨Nat.le_of_ble_eq_true rfl, Nat.le_of_ble_eq_true rfl⟩) (preSX hK hPx (xG.keep hG hS)) rfl rfl hl.1 rfl (lv_room (Nat.le_of_ble_eq_true rfl)) dL_law_757 ⟨hc.1, hc.2⟩) hS (fun _ _ h => h.elim) (fun _ h => h.elim) (fun r1 u1 t H locs ht hvm hw hB hz hk hS => ?_)
      have hPm := keepA hPm (wD_of hq' rfl) (fun x _ h => h) hk
      replace hw : r1 = nI 1 := hw
      subst hw
      replace hB : va_P D cls2 (cW q cI cD (nI n) rC fi fo fw fe ft fr fp fl ff ++ oW o o2 cJ cD f1 f2) t.heap := hB
      rw [ht] at hB
      have hPx := hB
      refine lv_istore (lv' := [(6, .int (nI 1)), (0, .ref b), (1, .ref (q 0)), (2, .ref (q' 0)), (3, .ref o), (4, .ref o2), (5, .int (nI i))]) hx hb dL_law_760 hl (by decide) rfl (fun ls hl => ?_)
      refine lv_aload_n hx hb dL_law_762 rfl (lv_at hl 3 rfl) ?_
      refine lv_aload_n hx hb dL_law_763 rfl (lv_at hl 1 rfl) ?_
      refine lv_iload hx hb dL_law_764 (lv_at hl 6 rfl) ?_
      refine lv_iconst (v := nI 1) hx hb dL_law_766 (by decide) ?_
      refine w_iadd hx hb dL_law_767 ?_
      refine w_scr hx hb hXs hbl hS (k := i + 1) (v := nI i0) hy1.symm (by omega) hL dL_law_768 ?_
      refine lv_aload_n hx hb dL_law_769 rfl (lv_at hl 1 rfl) ?_
      refine lv_iload hx hb dL_law_770 (lv_at hl 6 rfl) ?_
      refine lv_iconst (v := nI 2) hx hb dL_law_772 (by decide) ?_
      refine w_iadd hx hb dL_law_773 ?_
      refine w_scr hx hb hXs hbl hS (k := i + 2) (v := y2) hy2.symm (by omega) hL dL_law_774 ?_
      refine va_calld (va_runV (As := [.int (nI i0), .int y2]) (rest := []) S (c_X1_estimatex hn (by rw [h2, Bool.and_false]) hq') (cwV 2 hts gL_law_X1_estimate rfl rfl rfl hdX1_estimate ⟨Nat.le_of_ble_eq_true rfl, Nat.le_of_ble_eq_true rfl⟩) (preV hK2 hPm rfl rfl) rfl rfl hl.1 rfl (lv_room (Nat.le_of_ble_eq_true rfl)) dL_law_775 ⟨hc.1, hc.2⟩) hS (fun _ _ h => hA2 _ h) (fun _ h => hA2 _ h) (fun r2 u2 t H locs ht hvm hw2 hB hz hk hS => ?_)
      have hPx := keepA hPx (D12_of hd rfl) (fun x h1 h2 => hdis x h2 h1) hk
      replace hB : va_P D cls2 (mW q' cI cD (nI 1) (nI n) rC hh gi go gw ge gr gf gp gl gc) t.heap := hB
      rw [ht] at hB
      have hPm := hB
      refine lv_dstore (lv' := [(7, .double r2), (6, .int (nI 1)), (0, .ref b), (1, .ref (q 0)), (2, .ref (q' 0)), (3, .ref o), (4, .ref o2), (5, .int (nI i))]) hx hb dL_law_778 hl (by decide) rfl (fun ls hl => ?_)
      refine lv_aload_n hx hb dL_law_780 rfl (lv_at hl 4 rfl) ?_
      refine vp_callSi (W.runV (As := []) (rest := []) S (c_X1_thrown) (cwV 0 hts gL_law_X1_thrown rfl rfl rfl hdX1_thrown ⟨Nat.le_of_ble_eq_true rfl, Nat.le_of_ble_eq_true rfl⟩) (preV hK2 hPm rfl rfl) rfl rfl hl.1 rfl (lv_room (Nat.le_of_ble_eq_true rfl)) dL_law_781 ⟨hc.1, hc.2⟩) (fun r3 er3 => ?_)
      subst er3
      refine lv_iload hx hb dL_law_784 (lv_at hl 1 rfl) ?_
      refine lv_icmp_eq (tgt := 791) hx hb dL_law_786 (by decide) (fun _ => ?_) (fun h => absurd rfl h)
      refine lv_iload hx hb dL_law_791 (lv_at hl 1 rfl) ?_
      refine lv_if_ne (tgt := 828) hx hb dL_law_793 (by decide) (fun h793_0 => ?_) (fun h793_0 => absurd h793_0 (by decide))
      refine lv_goto (tgt := 1355) hx hb dL_law_828 (by decide) ?_
      exact K n rC inf out w e _ _ _ hOK ⟨_, _, _, _, _, _, _, _, _, _, _, hPx, hI, hO, hW, hE, _, hT, hT2⟩ ⟨_, _, _, _, _, _, _, _, _, _, _, hPm, hI', hO', hW', hE'⟩ hS (lv_sub hl [2, 3, 4, 5, 6, 7] rfl)
  · replace h1 := Bool.not_eq_true _ |>.mp h1
    refine lv_aload_n hx hb dL_law_742 rfl (lv_at hl 1 rfl) ?_
    refine lv_aload_n hx hb dL_law_743 rfl (lv_at hl 0 rfl) ?_
    refine lv_iload hx hb dL_law_744 (lv_at hl 5 rfl) ?_
    refine lv_iconst (v := nI 1) hx hb dL_law_746 (by decide) ?_
    refine w_iadd hx hb dL_law_747 ?_
    refine w_scr hx hb hXs hbl hS (k := i + 1) (v := y1) hy1.symm (by omega) hL dL_law_748 ?_
    refine lv_aload_n hx hb dL_law_749 rfl (lv_at hl 0 rfl) ?_
    refine lv_iload hx hb dL_law_750 (lv_at hl 5 rfl) ?_
    refine lv_iconst (v := nI 2) hx hb dL_law_752 (by decide) ?_
    refine w_iadd hx hb dL_law_753 ?_
    refine w_scr hx hb hXs hbl hS (k := i + 2) (v := y2) hy2.symm (by omega) hL dL_law_754 ?_
    refine lv_aload hx hb dL_law_755 (lv_at hl 4 rfl) ?_
    refine va_calli (vx_runSW (As := [.ref (q 0), .int y1, .int y2, .ref o2]) (rest := []) S (z_L_estimate1 ⟨rfl, rfl, Nat.le_of_ble_eq_true rfl, Nat.le_of_ble_eq_true rfl⟩ (x_X0_estimate1 hlt hn h1)) (vx_cwSW 4 hts gL_law_L_estimate rfl rfl rfl hdL_estimate ⟨Nat.le_of_ble_eq_true rfl, Nat.le_of_ble_eq_true rfl⟩) (preSX hK hPx (xG.keep hG hS)) rfl rfl hl.1 rfl (lv_room (Nat.le_of_ble_eq_true rfl)) dL_law_757 ⟨hc.1, hc.2⟩) hS (fun _ _ h => h.elim) (fun _ h => h.elim) (fun r1 u1 t H locs ht hvm hw hB hz hk hS => ?_)
    have hPm := keepA hPm (wD_of hq' rfl) (fun x _ h => h) hk
    replace hw : r1 = nI 1 := hw
    subst hw
    replace hB : va_P D cls2 (cW q cI cD (nI n) rC fi fo fw fe ft fr fp fl ff ++ oW o o2 cJ cD f1 f2) t.heap := hB
    rw [ht] at hB
    have hPx := hB
    refine lv_istore (lv' := [(6, .int (nI 1)), (0, .ref b), (1, .ref (q 0)), (2, .ref (q' 0)), (3, .ref o), (4, .ref o2), (5, .int (nI i))]) hx hb dL_law_760 hl (by decide) rfl (fun ls hl => ?_)
    refine lv_aload_n hx hb dL_law_762 rfl (lv_at hl 3 rfl) ?_
    refine lv_aload_n hx hb dL_law_763 rfl (lv_at hl 1 rfl) ?_
    refine lv_iload hx hb dL_law_764 (lv_at hl 6 rfl) ?_
    refine lv_iconst (v := nI 1) hx hb dL_law_766 (by decide) ?_
    refine w_iadd hx hb dL_law_767 ?_
    refine w_scr hx hb hXs hbl hS (k := i + 1) (v := y1) hy1.symm (by omega) hL dL_law_768 ?_
    refine lv_aload_n hx hb dL_law_769 rfl (lv_at hl 1 rfl) ?_
    refine lv_iload hx hb dL_law_770 (lv_at hl 6 rfl) ?_
    refine lv_iconst (v := nI 2) hx hb dL_law_772 (by decide) ?_
    refine w_iadd hx hb dL_law_773 ?_
    refine w_scr hx hb hXs hbl hS (k := i + 2) (v := y2) hy2.symm (by omega) hL dL_law_774 ?_
    refine va_calld (va_runV (As := [.int y1, .int y2]) (rest := []) S (c_X1_estimatex hn (by rw [h1, Bool.false_and]) hq') (cwV 2 hts gL_law_X1_estimate rfl rfl rfl hdX1_estimate ⟨Nat.le_of_ble_eq_true rfl, Nat.le_of_ble_eq_true rfl⟩) (preV hK2 hPm rfl rfl) rfl rfl hl.1 rfl (lv_room (Nat.le_of_ble_eq_true rfl)) dL_law_775 ⟨hc.1, hc.2⟩) hS (fun _ _ h => hA2 _ h) (fun _ h => hA2 _ h) (fun r2 u2 t H locs ht hvm hw2 hB hz hk hS => ?_)
    have hPx := keepA hPx (D12_of hd rfl) (fun x h1 h2 => hdis x h2 h1) hk
    replace hB : va_P D cls2 (mW q' cI cD (nI 1) (nI n) rC hh gi go gw ge gr gf gp gl gc) t.heap := hB
    rw [ht] at hB
    have hPm := hB
    refine lv_dstore (lv' := [(7, .double r2), (6, .int (nI 1)), (0, .ref b), (1, .ref (q 0)), (2, .ref (q' 0)), (3, .ref o), (4, .ref o2), (5, .int (nI i))]) hx hb dL_law_778 hl (by decide) rfl (fun ls hl => ?_)
    refine lv_aload_n hx hb dL_law_780 rfl (lv_at hl 4 rfl) ?_
    refine vp_callSi (W.runV (As := []) (rest := []) S (c_X1_thrown) (cwV 0 hts gL_law_X1_thrown rfl rfl rfl hdX1_thrown ⟨Nat.le_of_ble_eq_true rfl, Nat.le_of_ble_eq_true rfl⟩) (preV hK2 hPm rfl rfl) rfl rfl hl.1 rfl (lv_room (Nat.le_of_ble_eq_true rfl)) dL_law_781 ⟨hc.1, hc.2⟩) (fun r3 er3 => ?_)
    subst er3
    refine lv_iload hx hb dL_law_784 (lv_at hl 1 rfl) ?_
    refine lv_icmp_eq (tgt := 791) hx hb dL_law_786 (by decide) (fun _ => ?_) (fun h => absurd rfl h)
    refine lv_iload hx hb dL_law_791 (lv_at hl 1 rfl) ?_
    refine lv_if_ne (tgt := 828) hx hb dL_law_793 (by decide) (fun h793_0 => ?_) (fun h793_0 => absurd h793_0 (by decide))
    refine lv_goto (tgt := 1355) hx hb dL_law_828 (by decide) ?_
    exact K n rC inf out w e _ _ _ hOK ⟨_, _, _, _, _, _, _, _, _, _, _, hPx, hI, hO, hW, hE, _, hT, hT2⟩ ⟨_, _, _, _, _, _, _, _, _, _, _, hPm, hI', hO', hW', hE'⟩ hS (lv_sub hl [2, 3, 4, 5, 6, 7] rfl)
set_option maxHeartbeats 8000000 in
set_option maxRecDepth 100000 in
theorem law_17 {p : Program} {l : Launch} {e9 : Env} {s : State} {m : MethodId} {below : List Frame} {meth : Method} {c : Code} {b L : Nat} {xs : Nat → Int32} {D : va_G} {q q' : Nat → Nat} {o o2 : Nat} {cI cD cJ : ClassId} {sa : Nat → Nat} {i cells slots : Nat} {Q : State → Prop} (C : LCx p l s m meth c b L xs D q q' o o2 cI cD cJ sa) (hi : i + 4 < L) (hc : cells + 1 ≤ 3098 ∧ slots + 6 ≤ 119182) (K : LK p l e9 s m below meth c b D q q' o o2 cI cD cJ i cells slots Q)
    {n : Nat} {rC : Int32} {inf out : Nat → Int32} {w : Nat → Nat → Int32} {e : Nat → Nat → UInt64} {H : Heap} {locs : List Loc} {ls : Array Slot} (hOK : OKs n inf out w e) (hX : LX D q o o2 cI cD cJ n rC inf out w e H) (hM : LM D q' cI cD n rC inf out w e H) (hS : va_S (fun x : Nat => s.heap.size ≤ x) s.heap H locs) (hl : lv_has ls 10 (lvL q q' b o o2 i)) : W p l e9 room_1 s m #[Value.ref b] below meth c H locs cells slots Q (F0 m 977 ls []) := by
  obtain ⟨S, ⟨hr, hlocks⟩, hK, ⟨hd, hq', hdis⟩, ⟨hXs, hbl, hL⟩, hA1, hA2, hG, hlt⟩ := C
  obtain ⟨hx, hb, hml, hown, hts⟩ := id S
  obtain ⟨fi, fo, fw, fe, ft, fr, fp, fl, ff, f1, f2, hPx, hI, hO, hW, hE, T, hT, hT2⟩ := hX
  obtain ⟨th, hh, gi, go, gw, ge, gr, gf, gp, gl, gc, hPm, hI', hO', hW', hE'⟩ := hM
  have hK2 : va_K D cls2 (tys2 cI cD) s := hK.sub [0, 1] rfl
  have hq := hd.1
  obtain ⟨hn, hbI, hbO, hbW, hgE⟩ := id hOK
  obtain ⟨y1, hy1⟩ : ∃ y, y = xs (i + 1) := ⟨_, rfl⟩
  obtain ⟨y2, hy2⟩ : ∃ y, y = xs (i + 2) := ⟨_, rfl⟩
  by_cases h1 : armB n y1 = true
  · obtain ⟨i0, hi0, rfl⟩ := arm_t hn h1
    by_cases h2 : armB n y2 = true
    · obtain ⟨k0, hk0, rfl⟩ := arm_t hn h2
      refine lv_aload_n hx hb dL_law_977 rfl (lv_at hl 1 rfl) ?_
      refine lv_aload_n hx hb dL_law_978 rfl (lv_at hl 0 rfl) ?_
      refine lv_iload hx hb dL_law_979 (lv_at hl 5 rfl) ?_
      refine lv_iconst (v := nI 1) hx hb dL_law_981 (by decide) ?_
      refine w_iadd hx hb dL_law_982 ?_
      refine w_scr hx hb hXs hbl hS (k := i + 1) (v := nI i0) hy1.symm (by omega) hL dL_law_983 ?_
      refine lv_aload_n hx hb dL_law_984 rfl (lv_at hl 0 rfl) ?_
      refine lv_iload hx hb dL_law_985 (lv_at hl 5 rfl) ?_
      refine lv_iconst (v := nI 2) hx hb dL_law_987 (by decide) ?_
      refine w_iadd hx hb dL_law_988 ?_
      refine w_scr hx hb hXs hbl hS (k := i + 2) (v := nI k0) hy2.symm (by omega) hL dL_law_989 ?_
      refine lv_aload hx hb dL_law_990 (lv_at hl 4 rfl) ?_
      refine va_calli (vx_runSW (As := [.ref (q 0), .int (nI i0), .int (nI k0), .ref o2]) (rest := []) S (k_L_share (c_X0_share hn hE hi0 hk0 (ge_okR hn hgE hi0) (fun hd => ge_share hn hgE hi0 hk0 hd)) hd) (vx_cwSW 4 hts gL_law_L_share rfl rfl rfl hdL_share ⟨Nat.le_of_ble_eq_true rfl, Nat.le_of_ble_eq_true rfl⟩) (preSP hK hPx) rfl rfl hl.1 rfl (lv_room (Nat.le_of_ble_eq_true rfl)) dL_law_992 ⟨Nat.le_trans (Nat.le_succ _) hc.1, Nat.le_trans (Nat.le_add_right _ 6) hc.2⟩) hS (fun _ _ h => hA1 _ h) (fun _ h => hA1 _ h) (fun r1 u1 t H locs ht hvm hw hB hz hk hS => ?_)
      have hPm := keepA hPm (wD_of hq' rfl) hdis hk
      obtain ⟨hw0, hw⟩ := hw
      subst hw0
      replace hB : va_P D cls2 (cW q cI cD (nI n) rC fi fo fw fe ft fr fp fl ff ++ oW o o2 cJ cD f1 (vf_upd f2 0 u1)) t.heap := hB
      rw [ht] at hB
      have hPx := hB
      replace hw : u1 = shr n e i0 k0 := hw
      rw [hw] at hPx
      refine lv_istore (lv' := [(6, .int (nI 0)), (0, .ref b), (1, .ref (q 0)), (2, .ref (q' 0)), (3, .ref o), (4, .ref o2), (5, .int (nI i))]) hx hb dL_law_995 hl (by decide) rfl (fun ls hl => ?_)
      refine lv_aload_n hx hb dL_law_997 rfl (lv_at hl 3 rfl) ?_
      refine lv_aload_n hx hb dL_law_998 rfl (lv_at hl 1 rfl) ?_
      refine lv_iload hx hb dL_law_999 (lv_at hl 6 rfl) ?_
      refine lv_iconst (v := nI 1) hx hb dL_law_1001 (by decide) ?_
      refine w_iadd hx hb dL_law_1002 ?_
      refine w_scr hx hb hXs hbl hS (k := i + 1) (v := nI i0) hy1.symm (by omega) hL dL_law_1003 ?_
      refine lv_aload_n hx hb dL_law_1004 rfl (lv_at hl 1 rfl) ?_
      refine lv_iload hx hb dL_law_1005 (lv_at hl 6 rfl) ?_
      refine lv_iconst (v := nI 2) hx hb dL_law_1007 (by decide) ?_
      refine w_iadd hx hb dL_law_1008 ?_
      refine w_scr hx hb hXs hbl hS (k := i + 2) (v := nI k0) hy2.symm (by omega) hL dL_law_1009 ?_
      refine va_calld (va_runV (As := [.int (nI i0), .int (nI k0)]) (rest := []) S (c_X1_share hn hE' hi0 hk0 (ge_okR hn hgE hi0) (fun hd => ge_share hn hgE hi0 hk0 hd) hq') (cwV 2 hts gL_law_X1_share rfl rfl rfl hdX1_share ⟨Nat.le_of_ble_eq_true rfl, Nat.le_of_ble_eq_true rfl⟩) (preV hK2 hPm rfl rfl) rfl rfl hl.1 rfl (lv_room (Nat.le_of_ble_eq_true rfl)) dL_law_1010 ⟨Nat.le_trans (Nat.le_succ _) hc.1, Nat.le_trans (Nat.le_add_right _ 6) hc.2⟩) hS (fun _ _ h => hA2 _ h) (fun _ h => hA2 _ h) (fun r2 u2 t H locs ht hvm hw2 hB hz hk hS => ?_)
      have hPx := keepA hPx (D12_of hd rfl) (fun x h1 h2 => hdis x h2 h1) hk
      replace hB : va_P D cls2 (mW q' cI cD (nI 0) (nI n) rC hh gi go gw ge gr gf gp gl gc) t.heap := hB
      rw [ht] at hB
      have hPm := hB
      replace hw2 : r2 = shr n e i0 k0 := hw2
      rw [hw2]
      refine lv_dstore (lv' := [(7, .double (shr n e i0 k0)), (6, .int (nI 0)), (0, .ref b), (1, .ref (q 0)), (2, .ref (q' 0)), (3, .ref o), (4, .ref o2), (5, .int (nI i))]) hx hb dL_law_1013 hl (by decide) rfl (fun ls hl => ?_)
      refine lv_aload_n hx hb dL_law_1015 rfl (lv_at hl 4 rfl) ?_
      refine vp_callSi (W.runV (As := []) (rest := []) S (c_X1_thrown) (cwV 0 hts gL_law_X1_thrown rfl rfl rfl hdX1_thrown ⟨Nat.le_of_ble_eq_true rfl, Nat.le_of_ble_eq_true rfl⟩) (preV hK2 hPm rfl rfl) rfl rfl hl.1 rfl (lv_room (Nat.le_of_ble_eq_true rfl)) dL_law_1016 ⟨Nat.le_trans (Nat.le_succ _) hc.1, Nat.le_trans (Nat.le_add_right _ 6) hc.2⟩) (fun r3 er3 => ?_)
      subst er3
      refine lv_iload hx hb dL_law_1019 (lv_at hl 1 rfl) ?_
      refine lv_icmp_eq (tgt := 1026) hx hb dL_law_1021 (by decide) (fun _ => ?_) (fun h => absurd rfl h)
      refine lv_iload hx hb dL_law_1026 (lv_at hl 1 rfl) ?_
      refine lv_if_ne (tgt := 1063) hx hb dL_law_1028 (by decide) (fun h1028_0 => absurd (by decide) h1028_0) (fun h1028_0 => ?_)
      refine lv_aload hx hb dL_law_1031 (lv_at hl 6 rfl) ?_
      refine lv_iconst (v := nI 0) hx hb dL_law_1033 (by decide) ?_
      refine w_dald hx hb hK hPx 11 1 rfl rfl (j := 0) (v := shr n e i0 k0) (vfu0 _ _ _) (by decide) (by decide) dL_law_1034 ?_
      refine lv_dload hx hb dL_law_1035 (lv_at hl 0 rfl) ?_
      refine lv_dcmp hx hb dL_law_1037 ?_
      rw [dcmp_same (ge_shr hn hgE hi0 hk0)]
      refine lv_if_eq (tgt := 1063) hx hb dL_law_1038 (by decide) (fun h1038_1 => ?_) (fun h1038_1 => absurd (by decide) h1038_1)
      refine lv_goto (tgt := 1355) hx hb dL_law_1063 (by decide) ?_
      refine W.widen (k := cells + 1) (n := slots + 6) (Nat.le_succ _) (Nat.le_add_right _ 6) ?_
      exact K n rC inf out w e _ _ _ hOK ⟨_, _, _, _, _, _, _, _, _, _, _, hPx, hI, hO, hW, hE, _, hT, hT2⟩ ⟨_, _, _, _, _, _, _, _, _, _, _, hPm, hI', hO', hW', hE'⟩ hS (lv_sub hl [2, 3, 4, 5, 6, 7] rfl)
    · replace h2 := Bool.not_eq_true _ |>.mp h2
      refine lv_aload_n hx hb dL_law_977 rfl (lv_at hl 1 rfl) ?_
      refine lv_aload_n hx hb dL_law_978 rfl (lv_at hl 0 rfl) ?_
      refine lv_iload hx hb dL_law_979 (lv_at hl 5 rfl) ?_
      refine lv_iconst (v := nI 1) hx hb dL_law_981 (by decide) ?_
      refine w_iadd hx hb dL_law_982 ?_
      refine w_scr hx hb hXs hbl hS (k := i + 1) (v := nI i0) hy1.symm (by omega) hL dL_law_983 ?_
      refine lv_aload_n hx hb dL_law_984 rfl (lv_at hl 0 rfl) ?_
      refine lv_iload hx hb dL_law_985 (lv_at hl 5 rfl) ?_
      refine lv_iconst (v := nI 2) hx hb dL_law_987 (by decide) ?_
      refine w_iadd hx hb dL_law_988 ?_
      refine w_scr hx hb hXs hbl hS (k := i + 2) (v := y2) hy2.symm (by omega) hL dL_law_989 ?_
      refine lv_aload hx hb dL_law_990 (lv_at hl 4 rfl) ?_
      refine va_calli (vx_runSW (As := [.ref (q 0), .int (nI i0), .int y2, .ref o2]) (rest := []) S (z_L_share1 ⟨rfl, rfl, Nat.le_of_ble_eq_true rfl, Nat.le_of_ble_eq_true rfl⟩ (x_X0_share2 hlt hn hi0 h2)) (vx_cwSW 4 hts gL_law_L_share rfl rfl rfl hdL_share ⟨Nat.le_of_ble_eq_true rfl, Nat.le_of_ble_eq_true rfl⟩) (preSX hK hPx (xG.keep hG hS)) rfl rfl hl.1 rfl (lv_room (Nat.le_of_ble_eq_true rfl)) dL_law_992 ⟨hc.1, hc.2⟩) hS (fun _ _ h => h.elim) (fun _ h => h.elim) (fun r1 u1 t H locs ht hvm hw hB hz hk hS => ?_)
      have hPm := keepA hPm (wD_of hq' rfl) (fun x _ h => h) hk
      replace hw : r1 = nI 1 := hw
      subst hw
      replace hB : va_P D cls2 (cW q cI cD (nI n) rC fi fo fw fe ft fr fp fl ff ++ oW o o2 cJ cD f1 f2) t.heap := hB
      rw [ht] at hB
      have hPx := hB
      refine lv_istore (lv' := [(6, .int (nI 1)), (0, .ref b), (1, .ref (q 0)), (2, .ref (q' 0)), (3, .ref o), (4, .ref o2), (5, .int (nI i))]) hx hb dL_law_995 hl (by decide) rfl (fun ls hl => ?_)
      refine lv_aload_n hx hb dL_law_997 rfl (lv_at hl 3 rfl) ?_
      refine lv_aload_n hx hb dL_law_998 rfl (lv_at hl 1 rfl) ?_
      refine lv_iload hx hb dL_law_999 (lv_at hl 6 rfl) ?_
      refine lv_iconst (v := nI 1) hx hb dL_law_1001 (by decide) ?_
      refine w_iadd hx hb dL_law_1002 ?_
      refine w_scr hx hb hXs hbl hS (k := i + 1) (v := nI i0) hy1.symm (by omega) hL dL_law_1003 ?_
      refine lv_aload_n hx hb dL_law_1004 rfl (lv_at hl 1 rfl) ?_
      refine lv_iload hx hb dL_law_1005 (lv_at hl 6 rfl) ?_
      refine lv_iconst (v := nI 2) hx hb dL_law_1007 (by decide) ?_
      refine w_iadd hx hb dL_law_1008 ?_
      refine w_scr hx hb hXs hbl hS (k := i + 2) (v := y2) hy2.symm (by omega) hL dL_law_1009 ?_
      refine va_calld (va_runV (As := [.int (nI i0), .int y2]) (rest := []) S (c_X1_sharex hn (by rw [h2, Bool.and_false]) hq') (cwV 2 hts gL_law_X1_share rfl rfl rfl hdX1_share ⟨Nat.le_of_ble_eq_true rfl, Nat.le_of_ble_eq_true rfl⟩) (preV hK2 hPm rfl rfl) rfl rfl hl.1 rfl (lv_room (Nat.le_of_ble_eq_true rfl)) dL_law_1010 ⟨hc.1, hc.2⟩) hS (fun _ _ h => hA2 _ h) (fun _ h => hA2 _ h) (fun r2 u2 t H locs ht hvm hw2 hB hz hk hS => ?_)
      have hPx := keepA hPx (D12_of hd rfl) (fun x h1 h2 => hdis x h2 h1) hk
      replace hB : va_P D cls2 (mW q' cI cD (nI 1) (nI n) rC hh gi go gw ge gr gf gp gl gc) t.heap := hB
      rw [ht] at hB
      have hPm := hB
      refine lv_dstore (lv' := [(7, .double r2), (6, .int (nI 1)), (0, .ref b), (1, .ref (q 0)), (2, .ref (q' 0)), (3, .ref o), (4, .ref o2), (5, .int (nI i))]) hx hb dL_law_1013 hl (by decide) rfl (fun ls hl => ?_)
      refine lv_aload_n hx hb dL_law_1015 rfl (lv_at hl 4 rfl) ?_
      refine vp_callSi (W.runV (As := []) (rest := []) S (c_X1_thrown) (cwV 0 hts gL_law_X1_thrown rfl rfl rfl hdX1_thrown ⟨Nat.le_of_ble_eq_true rfl, Nat.le_of_ble_eq_true rfl⟩) (preV hK2 hPm rfl rfl) rfl rfl hl.1 rfl (lv_room (Nat.le_of_ble_eq_true rfl)) dL_law_1016 ⟨hc.1, hc.2⟩) (fun r3 er3 => ?_)
      subst er3
      refine lv_iload hx hb dL_law_1019 (lv_at hl 1 rfl) ?_
      refine lv_icmp_eq (tgt := 1026) hx hb dL_law_1021 (by decide) (fun _ => ?_) (fun h => absurd rfl h)
      refine lv_iload hx hb dL_law_1026 (lv_at hl 1 rfl) ?_
      refine lv_if_ne (tgt := 1063) hx hb dL_law_1028 (by decide) (fun h1028_0 => ?_) (fun h1028_0 => absurd h1028_0 (by decide))
      refine lv_goto (tgt := 1355) hx hb dL_law_1063 (by decide) ?_
      exact K n rC inf out w e _ _ _ hOK ⟨_, _, _, _, _, _, _, _, _, _, _, hPx, hI, hO, hW, hE, _, hT, hT2⟩ ⟨_, _, _, _, _, _, _, _, _, _, _, hPm, hI', hO', hW', hE'⟩ hS (lv_sub hl [2, 3, 4, 5, 6, 7] rfl)
  · replace h1 := Bool.not_eq_true _ |>.mp h1
    refine lv_aload_n hx hb dL_law_977 rfl (lv_at hl 1 rfl) ?_
    refine lv_aload_n hx hb dL_law_978 rfl (lv_at hl 0 rfl) ?_
    refine lv_iload hx hb dL_law_979 (lv_at hl 5 rfl) ?_
    refine lv_iconst (v := nI 1) hx hb dL_law_981 (by decide) ?_
    refine w_iadd hx hb dL_law_982 ?_
    refine w_scr hx hb hXs hbl hS (k := i + 1) (v := y1) hy1.symm (by omega) hL dL_law_983 ?_
    refine lv_aload_n hx hb dL_law_984 rfl (lv_at hl 0 rfl) ?_
    refine lv_iload hx hb dL_law_985 (lv_at hl 5 rfl) ?_
    refine lv_iconst (v := nI 2) hx hb dL_law_987 (by decide) ?_
    refine w_iadd hx hb dL_law_988 ?_
    refine w_scr hx hb hXs hbl hS (k := i + 2) (v := y2) hy2.symm (by omega) hL dL_law_989 ?_
    refine lv_aload hx hb dL_law_990 (lv_at hl 4 rfl) ?_
    refine va_calli (vx_runSW (As := [.ref (q 0), .int y1, .int y2, .ref o2]) (rest := []) S (z_L_share1 ⟨rfl, rfl, Nat.le_of_ble_eq_true rfl, Nat.le_of_ble_eq_true rfl⟩ (x_X0_share1 hlt hn h1)) (vx_cwSW 4 hts gL_law_L_share rfl rfl rfl hdL_share ⟨Nat.le_of_ble_eq_true rfl, Nat.le_of_ble_eq_true rfl⟩) (preSX hK hPx (xG.keep hG hS)) rfl rfl hl.1 rfl (lv_room (Nat.le_of_ble_eq_true rfl)) dL_law_992 ⟨hc.1, hc.2⟩) hS (fun _ _ h => h.elim) (fun _ h => h.elim) (fun r1 u1 t H locs ht hvm hw hB hz hk hS => ?_)
    have hPm := keepA hPm (wD_of hq' rfl) (fun x _ h => h) hk
    replace hw : r1 = nI 1 := hw
    subst hw
    replace hB : va_P D cls2 (cW q cI cD (nI n) rC fi fo fw fe ft fr fp fl ff ++ oW o o2 cJ cD f1 f2) t.heap := hB
    rw [ht] at hB
    have hPx := hB
    refine lv_istore (lv' := [(6, .int (nI 1)), (0, .ref b), (1, .ref (q 0)), (2, .ref (q' 0)), (3, .ref o), (4, .ref o2), (5, .int (nI i))]) hx hb dL_law_995 hl (by decide) rfl (fun ls hl => ?_)
    refine lv_aload_n hx hb dL_law_997 rfl (lv_at hl 3 rfl) ?_
    refine lv_aload_n hx hb dL_law_998 rfl (lv_at hl 1 rfl) ?_
    refine lv_iload hx hb dL_law_999 (lv_at hl 6 rfl) ?_
    refine lv_iconst (v := nI 1) hx hb dL_law_1001 (by decide) ?_
    refine w_iadd hx hb dL_law_1002 ?_
    refine w_scr hx hb hXs hbl hS (k := i + 1) (v := y1) hy1.symm (by omega) hL dL_law_1003 ?_
    refine lv_aload_n hx hb dL_law_1004 rfl (lv_at hl 1 rfl) ?_
    refine lv_iload hx hb dL_law_1005 (lv_at hl 6 rfl) ?_
    refine lv_iconst (v := nI 2) hx hb dL_law_1007 (by decide) ?_
    refine w_iadd hx hb dL_law_1008 ?_
    refine w_scr hx hb hXs hbl hS (k := i + 2) (v := y2) hy2.symm (by omega) hL dL_law_1009 ?_
    refine va_calld (va_runV (As := [.int y1, .int y2]) (rest := []) S (c_X1_sharex hn (by rw [h1, Bool.false_and]) hq') (cwV 2 hts gL_law_X1_share rfl rfl rfl hdX1_share ⟨Nat.le_of_ble_eq_true rfl, Nat.le_of_ble_eq_true rfl⟩) (preV hK2 hPm rfl rfl) rfl rfl hl.1 rfl (lv_room (Nat.le_of_ble_eq_true rfl)) dL_law_1010 ⟨hc.1, hc.2⟩) hS (fun _ _ h => hA2 _ h) (fun _ h => hA2 _ h) (fun r2 u2 t H locs ht hvm hw2 hB hz hk hS => ?_)
    have hPx := keepA hPx (D12_of hd rfl) (fun x h1 h2 => hdis x h2 h1) hk
    replace hB : va_P D cls2 (mW q' cI cD (nI 1) (nI n) rC hh gi go gw ge gr gf gp gl gc) t.heap := hB
    rw [ht] at hB
    have hPm := hB
    refine lv_dstore (lv' := [(7, .double r2), (6, .int (nI 1)), (0, .ref b), (1, .ref (q 0)), (2, .ref (q' 0)), (3, .ref o), (4, .ref o2), (5, .int (nI i))]) hx hb dL_law_1013 hl (by decide) rfl (fun ls hl => ?_)
    refine lv_aload_n hx hb dL_law_1015 rfl (lv_at hl 4 rfl) ?_
    refine vp_callSi (W.runV (As := []) (rest := []) S (c_X1_thrown) (cwV 0 hts gL_law_X1_thrown rfl rfl rfl hdX1_thrown ⟨Nat.le_of_ble_eq_true rfl, Nat.le_of_ble_eq_true rfl⟩) (preV hK2 hPm rfl rfl) rfl rfl hl.1 rfl (lv_room (Nat.le_of_ble_eq_true rfl)) dL_law_1016 ⟨hc.1, hc.2⟩) (fun r3 er3 => ?_)
    subst er3
    refine lv_iload hx hb dL_law_1019 (lv_at hl 1 rfl) ?_
    refine lv_icmp_eq (tgt := 1026) hx hb dL_law_1021 (by decide) (fun _ => ?_) (fun h => absurd rfl h)
    refine lv_iload hx hb dL_law_1026 (lv_at hl 1 rfl) ?_
    refine lv_if_ne (tgt := 1063) hx hb dL_law_1028 (by decide) (fun h1028_0 => ?_) (fun h1028_0 => absurd h1028_0 (by decide))
    refine lv_goto (tgt := 1355) hx hb dL_law_1063 (by decide) ?_
    exact K n rC inf out w e _ _ _ hOK ⟨_, _, _, _, _, _, _, _, _, _, _, hPx, hI, hO, hW, hE, _, hT, hT2⟩ ⟨_, _, _, _, _, _, _, _, _, _, _, hPm, hI', hO', hW', hE'⟩ hS (lv_sub hl [2, 3, 4, 5, 6, 7] rfl)
set_option maxHeartbeats 8000000 in
set_option maxRecDepth 100000 in
theorem law_20 {p : Program} {l : Launch} {e9 : Env} {s : State} {m : MethodId} {below : List Frame} {meth : Method} {c : Code} {b L : Nat} {xs : Nat → Int32} {D : va_G} {q q' : Nat → Nat} {o o2 : Nat} {cI cD cJ : ClassId} {sa : Nat → Nat} {i cells slots : Nat} {Q : State → Prop} (C : LCx p l s m meth c b L xs D q q' o o2 cI cD cJ sa) (hi : i + 4 < L) (hc : cells + 1 ≤ 3098 ∧ slots + 6 ≤ 119182) (K : LK p l e9 s m below meth c b D q q' o o2 cI cD cJ i cells slots Q)
    {n : Nat} {rC : Int32} {inf out : Nat → Int32} {w : Nat → Nat → Int32} {e : Nat → Nat → UInt64} {H : Heap} {locs : List Loc} {ls : Array Slot} (hOK : OKs n inf out w e) (hX : LX D q o o2 cI cD cJ n rC inf out w e H) (hM : LM D q' cI cD n rC inf out w e H) (hS : va_S (fun x : Nat => s.heap.size ≤ x) s.heap H locs) (hl : lv_has ls 10 (lvL q q' b o o2 i)) : W p l e9 room_1 s m #[Value.ref b] below meth c H locs cells slots Q (F0 m 1192 ls []) := by
  obtain ⟨S, ⟨hr, hlocks⟩, hK, ⟨hd, hq', hdis⟩, ⟨hXs, hbl, hL⟩, hA1, hA2, hG, hlt⟩ := C
  obtain ⟨hx, hb, hml, hown, hts⟩ := id S
  obtain ⟨fi, fo, fw, fe, ft, fr, fp, fl, ff, f1, f2, hPx, hI, hO, hW, hE, T, hT, hT2⟩ := hX
  obtain ⟨th, hh, gi, go, gw, ge, gr, gf, gp, gl, gc, hPm, hI', hO', hW', hE'⟩ := hM
  have hK2 : va_K D cls2 (tys2 cI cD) s := hK.sub [0, 1] rfl
  have hq := hd.1
  obtain ⟨hn, hbI, hbO, hbW, hgE⟩ := id hOK
  obtain ⟨y1, hy1⟩ : ∃ y, y = xs (i + 1) := ⟨_, rfl⟩
  obtain ⟨y2, hy2⟩ : ∃ y, y = xs (i + 2) := ⟨_, rfl⟩
  by_cases h1 : armB n y1 = true
  · obtain ⟨i0, hi0, rfl⟩ := arm_t hn h1
    by_cases h2 : armB n y2 = true
    · obtain ⟨k0, hk0, rfl⟩ := arm_t hn h2
      refine lv_aload_n hx hb dL_law_1192 rfl (lv_at hl 1 rfl) ?_
      refine lv_aload_n hx hb dL_law_1193 rfl (lv_at hl 0 rfl) ?_
      refine lv_iload hx hb dL_law_1194 (lv_at hl 5 rfl) ?_
      refine lv_iconst (v := nI 1) hx hb dL_law_1196 (by decide) ?_
      refine w_iadd hx hb dL_law_1197 ?_
      refine w_scr hx hb hXs hbl hS (k := i + 1) (v := nI i0) hy1.symm (by omega) hL dL_law_1198 ?_
      refine lv_aload_n hx hb dL_law_1199 rfl (lv_at hl 0 rfl) ?_
      refine lv_iload hx hb dL_law_1200 (lv_at hl 5 rfl) ?_
      refine lv_iconst (v := nI 2) hx hb dL_law_1202 (by decide) ?_
      refine w_iadd hx hb dL_law_1203 ?_
      refine w_scr hx hb hXs hbl hS (k := i + 2) (v := nI k0) hy2.symm (by omega) hL dL_law_1204 ?_
      refine lv_aload_n hx hb dL_law_1205 rfl (lv_at hl 3 rfl) ?_
      refine va_calli (vx_runSW (As := [.ref (q 0), .int (nI i0), .int (nI k0), .ref o]) (rest := []) S (k_L_rounded (c_X0_rounded hn hI hE hT (rt := (fun i j => fr (6 * i + j))) (fun _ _ _ _ => rfl) (fs := ff) (fun _ _ => rfl) hT2 hi0 hk0 (ge_okX hn hbI hgE hi0) hq) (fun _ => rfl) hd) (vx_cwSW 4 hts gL_law_L_rounded rfl rfl rfl hdL_rounded ⟨Nat.le_of_ble_eq_true rfl, Nat.le_of_ble_eq_true rfl⟩) (preSP hK hPx) rfl rfl hl.1 rfl (lv_room (Nat.le_of_ble_eq_true rfl)) dL_law_1206 ⟨Nat.le_trans (Nat.le_succ _) hc.1, Nat.le_trans (Nat.le_add_right _ 6) hc.2⟩) hS (fun _ _ h => hA1 _ h) (fun _ h => hA1 _ h) (fun r1 u1 t H locs ht hvm hw hB hz hk hS => ?_)
      have hPm := keepA hPm (wD_of hq' rfl) hdis hk
      obtain ⟨hw0, hw⟩ := hw
      subst hw0
      replace hB : va_P D cls2 (cW q cI cD (nI n) rC fi fo fw fe ft u1.2.1 fp fl u1.2.2 ++ oW o o2 cJ cD (vp_updL f1 0 (Int32.toInt64 u1.1)) f2) t.heap := hB
      rw [ht] at hB
      have hPx := hB
      replace hw : u1.1 = (rrow (opn w) n inf e i0 ((fun i j => fr (6 * i + j)), ff)).1 i0 k0 := hw
      rw [hw] at hPx
      refine lv_istore (lv' := [(6, .int (nI 0)), (0, .ref b), (1, .ref (q 0)), (2, .ref (q' 0)), (3, .ref o), (4, .ref o2), (5, .int (nI i))]) hx hb dL_law_1209 hl (by decide) rfl (fun ls hl => ?_)
      refine lv_aload_n hx hb dL_law_1211 rfl (lv_at hl 3 rfl) ?_
      refine lv_aload_n hx hb dL_law_1212 rfl (lv_at hl 1 rfl) ?_
      refine lv_iload hx hb dL_law_1213 (lv_at hl 6 rfl) ?_
      refine lv_iconst (v := nI 1) hx hb dL_law_1215 (by decide) ?_
      refine w_iadd hx hb dL_law_1216 ?_
      refine w_scr hx hb hXs hbl hS (k := i + 1) (v := nI i0) hy1.symm (by omega) hL dL_law_1217 ?_
      refine lv_aload_n hx hb dL_law_1218 rfl (lv_at hl 1 rfl) ?_
      refine lv_iload hx hb dL_law_1219 (lv_at hl 6 rfl) ?_
      refine lv_iconst (v := nI 2) hx hb dL_law_1221 (by decide) ?_
      refine w_iadd hx hb dL_law_1222 ?_
      refine w_scr hx hb hXs hbl hS (k := i + 2) (v := nI k0) hy2.symm (by omega) hL dL_law_1223 ?_
      refine va_calli (va_runV (As := [.int (nI i0), .int (nI k0)]) (rest := []) S (c_X1_rounded hn hI' hW' hE' (rt := (fun i j => gr (6 * i + j))) (fun _ _ _ _ => rfl) (fs := gf) (fun _ _ => rfl) hi0 hk0 (ge_okX hn hbI hgE hi0) hq') (cwV 2 hts gL_law_X1_rounded rfl rfl rfl hdX1_rounded ⟨Nat.le_of_ble_eq_true rfl, Nat.le_of_ble_eq_true rfl⟩) (preV hK2 hPm rfl rfl) rfl rfl hl.1 rfl (lv_room (Nat.le_of_ble_eq_true rfl)) dL_law_1224 ⟨Nat.le_trans (Nat.le_succ _) hc.1, Nat.le_trans (Nat.le_add_right _ 6) hc.2⟩) hS (fun _ _ h => hA2 _ h) (fun _ h => hA2 _ h) (fun r2 u2 t H locs ht hvm hw2 hB hz hk hS => ?_)
      have hPx := keepA hPx (D12_of hd rfl) (fun x h1 h2 => hdis x h2 h1) hk
      replace hB : va_P D cls2 (mW q' cI cD (nI 0) (nI n) rC hh gi go gw ge u2.1 u2.2 gp gl gc) t.heap := hB
      rw [ht] at hB
      have hPm := hB
      replace hw2 : r2 = (rrwM (opn w) n inf e i0 ((fun i j => gr (6 * i + j)), gf)).1 i0 k0 := hw2
      rw [hw2, ← (rrow_eq (op := opn w) hn.2 (ge_FX hn hbI hgE hi0) (hbI i0 hi0).1 (hbI i0 hi0).2 ((fun i j => fr (6 * i + j)), ff) ((fun i j => gr (6 * i + j)), gf)).1 k0 hk0]
      refine lv_istore (lv' := [(7, .int ((rrow (opn w) n inf e i0 ((fun i j => fr (6 * i + j)), ff)).1 i0 k0)), (6, .int (nI 0)), (0, .ref b), (1, .ref (q 0)), (2, .ref (q' 0)), (3, .ref o), (4, .ref o2), (5, .int (nI i))]) hx hb dL_law_1227 hl (by decide) rfl (fun ls hl => ?_)
      refine lv_aload_n hx hb dL_law_1229 rfl (lv_at hl 4 rfl) ?_
      refine vp_callSi (W.runV (As := []) (rest := []) S (c_X1_thrown) (cwV 0 hts gL_law_X1_thrown rfl rfl rfl hdX1_thrown ⟨Nat.le_of_ble_eq_true rfl, Nat.le_of_ble_eq_true rfl⟩) (preV hK2 hPm rfl rfl) rfl rfl hl.1 rfl (lv_room (Nat.le_of_ble_eq_true rfl)) dL_law_1230 ⟨Nat.le_trans (Nat.le_succ _) hc.1, Nat.le_trans (Nat.le_add_right _ 6) hc.2⟩) (fun r3 er3 => ?_)
      subst er3
      refine lv_iload hx hb dL_law_1233 (lv_at hl 1 rfl) ?_
      refine lv_icmp_eq (tgt := 1240) hx hb dL_law_1235 (by decide) (fun _ => ?_) (fun h => absurd rfl h)
      refine lv_iload hx hb dL_law_1240 (lv_at hl 1 rfl) ?_
      refine lv_if_ne (tgt := 1257) hx hb dL_law_1242 (by decide) (fun h1242_0 => absurd (by decide) h1242_0) (fun h1242_0 => ?_)
      refine lv_aload_n hx hb dL_law_1245 rfl (lv_at hl 5 rfl) ?_
      refine lv_iconst (v := nI 0) hx hb dL_law_1246 (by decide) ?_
      refine w_lald hx hb hK hPx 10 2 rfl rfl (j := 0) (v := Int32.toInt64 ((rrow (opn w) n inf e i0 ((fun i j => fr (6 * i + j)), ff)).1 i0 k0)) (updL_self _ _ _) (by decide) (by decide) dL_law_1247 ?_
      refine lv_iload hx hb dL_law_1248 (lv_at hl 0 rfl) ?_
      refine lv_i2l hx hb dL_law_1250 rfl ?_
      refine w_lcmp0 hx hb dL_law_1251 ?_
      refine lv_if_eq (tgt := 1257) hx hb dL_law_1252 (by decide) (fun h1252_1 => ?_) (fun h1252_1 => absurd (by decide) h1252_1)
      refine lv_goto (tgt := 1355) hx hb dL_law_1257 (by decide) ?_
      refine W.widen (k := cells + 1) (n := slots + 6) (Nat.le_succ _) (Nat.le_add_right _ 6) ?_
      exact K n rC inf out w e _ _ _ hOK ⟨_, _, _, _, _, _, _, _, _, _, _, hPx, hI, hO, hW, hE, _, hT, hT2⟩ ⟨_, _, _, _, _, _, _, _, _, _, _, hPm, hI', hO', hW', hE'⟩ hS (lv_sub hl [2, 3, 4, 5, 6, 7] rfl)
    · replace h2 := Bool.not_eq_true _ |>.mp h2
      refine lv_aload_n hx hb dL_law_1192 rfl (lv_at hl 1 rfl) ?_
      refine lv_aload_n hx hb dL_law_1193 rfl (lv_at hl 0 rfl) ?_
      refine lv_iload hx hb dL_law_1194 (lv_at hl 5 rfl) ?_
      refine lv_iconst (v := nI 1) hx hb dL_law_1196 (by decide) ?_
      refine w_iadd hx hb dL_law_1197 ?_
      refine w_scr hx hb hXs hbl hS (k := i + 1) (v := nI i0) hy1.symm (by omega) hL dL_law_1198 ?_
      refine lv_aload_n hx hb dL_law_1199 rfl (lv_at hl 0 rfl) ?_
      refine lv_iload hx hb dL_law_1200 (lv_at hl 5 rfl) ?_
      refine lv_iconst (v := nI 2) hx hb dL_law_1202 (by decide) ?_
      refine w_iadd hx hb dL_law_1203 ?_
      refine w_scr hx hb hXs hbl hS (k := i + 2) (v := y2) hy2.symm (by omega) hL dL_law_1204 ?_
      refine lv_aload_n hx hb dL_law_1205 rfl (lv_at hl 3 rfl) ?_
      refine va_calli (vx_runSW (As := [.ref (q 0), .int (nI i0), .int y2, .ref o]) (rest := []) S (z_L_rounded1 ⟨rfl, rfl, Nat.le_of_ble_eq_true rfl, Nat.le_of_ble_eq_true rfl⟩ (x_X0_rounded2 hlt hn hi0 h2)) (vx_cwSW 4 hts gL_law_L_rounded rfl rfl rfl hdL_rounded ⟨Nat.le_of_ble_eq_true rfl, Nat.le_of_ble_eq_true rfl⟩) (preSX hK hPx (xG.keep hG hS)) rfl rfl hl.1 rfl (lv_room (Nat.le_of_ble_eq_true rfl)) dL_law_1206 ⟨hc.1, hc.2⟩) hS (fun _ _ h => h.elim) (fun _ h => h.elim) (fun r1 u1 t H locs ht hvm hw hB hz hk hS => ?_)
      have hPm := keepA hPm (wD_of hq' rfl) (fun x _ h => h) hk
      replace hw : r1 = nI 1 := hw
      subst hw
      replace hB : va_P D cls2 (cW q cI cD (nI n) rC fi fo fw fe ft fr fp fl ff ++ oW o o2 cJ cD f1 f2) t.heap := hB
      rw [ht] at hB
      have hPx := hB
      refine lv_istore (lv' := [(6, .int (nI 1)), (0, .ref b), (1, .ref (q 0)), (2, .ref (q' 0)), (3, .ref o), (4, .ref o2), (5, .int (nI i))]) hx hb dL_law_1209 hl (by decide) rfl (fun ls hl => ?_)
      refine lv_aload_n hx hb dL_law_1211 rfl (lv_at hl 3 rfl) ?_
      refine lv_aload_n hx hb dL_law_1212 rfl (lv_at hl 1 rfl) ?_
      refine lv_iload hx hb dL_law_1213 (lv_at hl 6 rfl) ?_
      refine lv_iconst (v := nI 1) hx hb dL_law_1215 (by decide) ?_
      refine w_iadd hx hb dL_law_1216 ?_
      refine w_scr hx hb hXs hbl hS (k := i + 1) (v := nI i0) hy1.symm (by omega) hL dL_law_1217 ?_
      refine lv_aload_n hx hb dL_law_1218 rfl (lv_at hl 1 rfl) ?_
      refine lv_iload hx hb dL_law_1219 (lv_at hl 6 rfl) ?_
      refine lv_iconst (v := nI 2) hx hb dL_law_1221 (by decide) ?_
      refine w_iadd hx hb dL_law_1222 ?_
      refine w_scr hx hb hXs hbl hS (k := i + 2) (v := y2) hy2.symm (by omega) hL dL_law_1223 ?_
      refine va_calli (va_runV (As := [.int (nI i0), .int y2]) (rest := []) S (c_X1_roundedx hn (by rw [h2, Bool.and_false]) hq') (cwV 2 hts gL_law_X1_rounded rfl rfl rfl hdX1_rounded ⟨Nat.le_of_ble_eq_true rfl, Nat.le_of_ble_eq_true rfl⟩) (preV hK2 hPm rfl rfl) rfl rfl hl.1 rfl (lv_room (Nat.le_of_ble_eq_true rfl)) dL_law_1224 ⟨hc.1, hc.2⟩) hS (fun _ _ h => hA2 _ h) (fun _ h => hA2 _ h) (fun r2 u2 t H locs ht hvm hw2 hB hz hk hS => ?_)
      have hPx := keepA hPx (D12_of hd rfl) (fun x h1 h2 => hdis x h2 h1) hk
      replace hB : va_P D cls2 (mW q' cI cD (nI 1) (nI n) rC hh gi go gw ge gr gf gp gl gc) t.heap := hB
      rw [ht] at hB
      have hPm := hB
      refine lv_istore (lv' := [(7, .int r2), (6, .int (nI 1)), (0, .ref b), (1, .ref (q 0)), (2, .ref (q' 0)), (3, .ref o), (4, .ref o2), (5, .int (nI i))]) hx hb dL_law_1227 hl (by decide) rfl (fun ls hl => ?_)
      refine lv_aload_n hx hb dL_law_1229 rfl (lv_at hl 4 rfl) ?_
      refine vp_callSi (W.runV (As := []) (rest := []) S (c_X1_thrown) (cwV 0 hts gL_law_X1_thrown rfl rfl rfl hdX1_thrown ⟨Nat.le_of_ble_eq_true rfl, Nat.le_of_ble_eq_true rfl⟩) (preV hK2 hPm rfl rfl) rfl rfl hl.1 rfl (lv_room (Nat.le_of_ble_eq_true rfl)) dL_law_1230 ⟨hc.1, hc.2⟩) (fun r3 er3 => ?_)
      subst er3
      refine lv_iload hx hb dL_law_1233 (lv_at hl 1 rfl) ?_
      refine lv_icmp_eq (tgt := 1240) hx hb dL_law_1235 (by decide) (fun _ => ?_) (fun h => absurd rfl h)
      refine lv_iload hx hb dL_law_1240 (lv_at hl 1 rfl) ?_
      refine lv_if_ne (tgt := 1257) hx hb dL_law_1242 (by decide) (fun h1242_0 => ?_) (fun h1242_0 => absurd h1242_0 (by decide))
      refine lv_goto (tgt := 1355) hx hb dL_law_1257 (by decide) ?_
      exact K n rC inf out w e _ _ _ hOK ⟨_, _, _, _, _, _, _, _, _, _, _, hPx, hI, hO, hW, hE, _, hT, hT2⟩ ⟨_, _, _, _, _, _, _, _, _, _, _, hPm, hI', hO', hW', hE'⟩ hS (lv_sub hl [2, 3, 4, 5, 6, 7] rfl)
  · replace h1 := Bool.not_eq_true _ |>.mp h1
    refine lv_aload_n hx hb dL_law_1192 rfl (lv_at hl 1 rfl) ?_
    refine lv_aload_n hx hb dL_law_1193 rfl (lv_at hl 0 rfl) ?_
    refine lv_iload hx hb dL_law_1194 (lv_at hl 5 rfl) ?_
    refine lv_iconst (v := nI 1) hx hb dL_law_1196 (by decide) ?_
    refine w_iadd hx hb dL_law_1197 ?_
    refine w_scr hx hb hXs hbl hS (k := i + 1) (v := y1) hy1.symm (by omega) hL dL_law_1198 ?_
    refine lv_aload_n hx hb dL_law_1199 rfl (lv_at hl 0 rfl) ?_
    refine lv_iload hx hb dL_law_1200 (lv_at hl 5 rfl) ?_
    refine lv_iconst (v := nI 2) hx hb dL_law_1202 (by decide) ?_
    refine w_iadd hx hb dL_law_1203 ?_
    refine w_scr hx hb hXs hbl hS (k := i + 2) (v := y2) hy2.symm (by omega) hL dL_law_1204 ?_
    refine lv_aload_n hx hb dL_law_1205 rfl (lv_at hl 3 rfl) ?_
    refine va_calli (vx_runSW (As := [.ref (q 0), .int y1, .int y2, .ref o]) (rest := []) S (z_L_rounded1 ⟨rfl, rfl, Nat.le_of_ble_eq_true rfl, Nat.le_of_ble_eq_true rfl⟩ (x_X0_rounded1 hlt hn h1)) (vx_cwSW 4 hts gL_law_L_rounded rfl rfl rfl hdL_rounded ⟨Nat.le_of_ble_eq_true rfl, Nat.le_of_ble_eq_true rfl⟩) (preSX hK hPx (xG.keep hG hS)) rfl rfl hl.1 rfl (lv_room (Nat.le_of_ble_eq_true rfl)) dL_law_1206 ⟨hc.1, hc.2⟩) hS (fun _ _ h => h.elim) (fun _ h => h.elim) (fun r1 u1 t H locs ht hvm hw hB hz hk hS => ?_)
    have hPm := keepA hPm (wD_of hq' rfl) (fun x _ h => h) hk
    replace hw : r1 = nI 1 := hw
    subst hw
    replace hB : va_P D cls2 (cW q cI cD (nI n) rC fi fo fw fe ft fr fp fl ff ++ oW o o2 cJ cD f1 f2) t.heap := hB
    rw [ht] at hB
    have hPx := hB
    refine lv_istore (lv' := [(6, .int (nI 1)), (0, .ref b), (1, .ref (q 0)), (2, .ref (q' 0)), (3, .ref o), (4, .ref o2), (5, .int (nI i))]) hx hb dL_law_1209 hl (by decide) rfl (fun ls hl => ?_)
    refine lv_aload_n hx hb dL_law_1211 rfl (lv_at hl 3 rfl) ?_
    refine lv_aload_n hx hb dL_law_1212 rfl (lv_at hl 1 rfl) ?_
    refine lv_iload hx hb dL_law_1213 (lv_at hl 6 rfl) ?_
    refine lv_iconst (v := nI 1) hx hb dL_law_1215 (by decide) ?_
    refine w_iadd hx hb dL_law_1216 ?_
    refine w_scr hx hb hXs hbl hS (k := i + 1) (v := y1) hy1.symm (by omega) hL dL_law_1217 ?_
    refine lv_aload_n hx hb dL_law_1218 rfl (lv_at hl 1 rfl) ?_
    refine lv_iload hx hb dL_law_1219 (lv_at hl 6 rfl) ?_
    refine lv_iconst (v := nI 2) hx hb dL_law_1221 (by decide) ?_
    refine w_iadd hx hb dL_law_1222 ?_
    refine w_scr hx hb hXs hbl hS (k := i + 2) (v := y2) hy2.symm (by omega) hL dL_law_1223 ?_
    refine va_calli (va_runV (As := [.int y1, .int y2]) (rest := []) S (c_X1_roundedx hn (by rw [h1, Bool.false_and]) hq') (cwV 2 hts gL_law_X1_rounded rfl rfl rfl hdX1_rounded ⟨Nat.le_of_ble_eq_true rfl, Nat.le_of_ble_eq_true rfl⟩) (preV hK2 hPm rfl rfl) rfl rfl hl.1 rfl (lv_room (Nat.le_of_ble_eq_true rfl)) dL_law_1224 ⟨hc.1, hc.2⟩) hS (fun _ _ h => hA2 _ h) (fun _ h => hA2 _ h) (fun r2 u2 t H locs ht hvm hw2 hB hz hk hS => ?_)
    have hPx := keepA hPx (D12_of hd rfl) (fun x h1 h2 => hdis x h2 h1) hk
    replace hB : va_P D cls2 (mW q' cI cD (nI 1) (nI n) rC hh gi go gw ge gr gf gp gl gc) t.heap := hB
    rw [ht] at hB
    have hPm := hB
    refine lv_istore (lv' := [(7, .int r2), (6, .int (nI 1)), (0, .ref b), (1, .ref (q 0)), (2, .ref (q' 0)), (3, .ref o), (4, .ref o2), (5, .int (nI i))]) hx hb dL_law_1227 hl (by decide) rfl (fun ls hl => ?_)
    refine lv_aload_n hx hb dL_law_1229 rfl (lv_at hl 4 rfl) ?_
    refine vp_callSi (W.runV (As := []) (rest := []) S (c_X1_thrown) (cwV 0 hts gL_law_X1_thrown rfl rfl rfl hdX1_thrown ⟨Nat.le_of_ble_eq_true rfl, Nat.le_of_ble_eq_true rfl⟩) (preV hK2 hPm rfl rfl) rfl rfl hl.1 rfl (lv_room (Nat.le_of_ble_eq_true rfl)) dL_law_1230 ⟨hc.1, hc.2⟩) (fun r3 er3 => ?_)
    subst er3
    refine lv_iload hx hb dL_law_1233 (lv_at hl 1 rfl) ?_
    refine lv_icmp_eq (tgt := 1240) hx hb dL_law_1235 (by decide) (fun _ => ?_) (fun h => absurd rfl h)
    refine lv_iload hx hb dL_law_1240 (lv_at hl 1 rfl) ?_
    refine lv_if_ne (tgt := 1257) hx hb dL_law_1242 (by decide) (fun h1242_0 => ?_) (fun h1242_0 => absurd h1242_0 (by decide))
    refine lv_goto (tgt := 1355) hx hb dL_law_1257 (by decide) ?_
    exact K n rC inf out w e _ _ _ hOK ⟨_, _, _, _, _, _, _, _, _, _, _, hPx, hI, hO, hW, hE, _, hT, hT2⟩ ⟨_, _, _, _, _, _, _, _, _, _, _, hPm, hI', hO', hW', hE'⟩ hS (lv_sub hl [2, 3, 4, 5, 6, 7] rfl)
set_option maxHeartbeats 8000000 in
set_option maxRecDepth 100000 in
theorem law_22 {p : Program} {l : Launch} {e9 : Env} {s : State} {m : MethodId} {below : List Frame} {meth : Method} {c : Code} {b L : Nat} {xs : Nat → Int32} {D : va_G} {q q' : Nat → Nat} {o o2 : Nat} {cI cD cJ : ClassId} {sa : Nat → Nat} {i cells slots : Nat} {Q : State → Prop} (C : LCx p l s m meth c b L xs D q q' o o2 cI cD cJ sa) (hi : i + 4 < L) (hc : cells + 1 ≤ 3098 ∧ slots + 6 ≤ 119182) (K : LK p l e9 s m below meth c b D q q' o o2 cI cD cJ i cells slots Q)
    {n : Nat} {rC : Int32} {inf out : Nat → Int32} {w : Nat → Nat → Int32} {e : Nat → Nat → UInt64} {H : Heap} {locs : List Loc} {ls : Array Slot} (hOK : OKs n inf out w e) (hX : LX D q o o2 cI cD cJ n rC inf out w e H) (hM : LM D q' cI cD n rC inf out w e H) (hS : va_S (fun x : Nat => s.heap.size ≤ x) s.heap H locs) (hl : lv_has ls 10 (lvL q q' b o o2 i)) : W p l e9 room_1 s m #[Value.ref b] below meth c H locs cells slots Q (F0 m 1273 ls []) := by
  obtain ⟨S, ⟨hr, hlocks⟩, hK, ⟨hd, hq', hdis⟩, ⟨hXs, hbl, hL⟩, hA1, hA2, hG, hlt⟩ := C
  obtain ⟨hx, hb, hml, hown, hts⟩ := id S
  obtain ⟨fi, fo, fw, fe, ft, fr, fp, fl, ff, f1, f2, hPx, hI, hO, hW, hE, T, hT, hT2⟩ := hX
  obtain ⟨th, hh, gi, go, gw, ge, gr, gf, gp, gl, gc, hPm, hI', hO', hW', hE'⟩ := hM
  have hK2 : va_K D cls2 (tys2 cI cD) s := hK.sub [0, 1] rfl
  have hq := hd.1
  obtain ⟨hn, hbI, hbO, hbW, hgE⟩ := id hOK
  obtain ⟨y1, hy1⟩ : ∃ y, y = xs (i + 1) := ⟨_, rfl⟩
  obtain ⟨y2, hy2⟩ : ∃ y, y = xs (i + 2) := ⟨_, rfl⟩
  by_cases h1 : armB n y1 = true
  · obtain ⟨i0, hi0, rfl⟩ := arm_t hn h1
    by_cases h2 : armB n y2 = true
    · obtain ⟨k0, hk0, rfl⟩ := arm_t hn h2
      refine lv_aload_n hx hb dL_law_1273 rfl (lv_at hl 1 rfl) ?_
      refine lv_aload_n hx hb dL_law_1274 rfl (lv_at hl 0 rfl) ?_
      refine lv_iload hx hb dL_law_1275 (lv_at hl 5 rfl) ?_
      refine lv_iconst (v := nI 1) hx hb dL_law_1277 (by decide) ?_
      refine w_iadd hx hb dL_law_1278 ?_
      refine w_scr hx hb hXs hbl hS (k := i + 1) (v := nI i0) hy1.symm (by omega) hL dL_law_1279 ?_
      refine lv_aload_n hx hb dL_law_1280 rfl (lv_at hl 0 rfl) ?_
      refine lv_iload hx hb dL_law_1281 (lv_at hl 5 rfl) ?_
      refine lv_iconst (v := nI 2) hx hb dL_law_1283 (by decide) ?_
      refine w_iadd hx hb dL_law_1284 ?_
      refine w_scr hx hb hXs hbl hS (k := i + 2) (v := nI k0) hy2.symm (by omega) hL dL_law_1285 ?_
      refine lv_aload_n hx hb dL_law_1286 rfl (lv_at hl 3 rfl) ?_
      refine va_calli (vx_runSW (As := [.ref (q 0), .int (nI i0), .int (nI k0), .ref o]) (rest := []) S (k_L_possible (c_X0_possible hn hI hO hT (pt := (fun i j => fp (6 * i + j))) (fun _ _ _ _ => rfl) hT2 hi0 hk0 hq) (fun _ => rfl) hd) (vx_cwSW 4 hts gL_law_L_possible rfl rfl rfl hdL_possible ⟨Nat.le_of_ble_eq_true rfl, Nat.le_of_ble_eq_true rfl⟩) (preSP hK hPx) rfl rfl hl.1 rfl (lv_room (Nat.le_of_ble_eq_true rfl)) dL_law_1287 ⟨Nat.le_trans (Nat.le_succ _) hc.1, Nat.le_trans (Nat.le_add_right _ 6) hc.2⟩) hS (fun _ _ h => hA1 _ h) (fun _ h => hA1 _ h) (fun r1 u1 t H locs ht hvm hw hB hz hk hS => ?_)
      have hPm := keepA hPm (wD_of hq' rfl) hdis hk
      obtain ⟨hw0, hw⟩ := hw
      subst hw0
      replace hB : va_P D cls2 (cW q cI cD (nI n) rC fi fo fw fe ft fr u1.2.1 u1.2.2 ff ++ oW o o2 cJ cD (vp_updL f1 0 (Int32.toInt64 u1.1)) f2) t.heap := hB
      rw [ht] at hB
      have hPx := hB
      replace hw : u1.1 = (tbO n (opn w) inf (psb n (opn w) inf out) n ((fun i j => fp (6 * i + j)), out)).1 i0 k0 := hw
      rw [hw] at hPx
      refine lv_istore (lv' := [(6, .int (nI 0)), (0, .ref b), (1, .ref (q 0)), (2, .ref (q' 0)), (3, .ref o), (4, .ref o2), (5, .int (nI i))]) hx hb dL_law_1290 hl (by decide) rfl (fun ls hl => ?_)
      refine lv_aload_n hx hb dL_law_1292 rfl (lv_at hl 3 rfl) ?_
      refine lv_aload_n hx hb dL_law_1293 rfl (lv_at hl 1 rfl) ?_
      refine lv_iload hx hb dL_law_1294 (lv_at hl 6 rfl) ?_
      refine lv_iconst (v := nI 1) hx hb dL_law_1296 (by decide) ?_
      refine w_iadd hx hb dL_law_1297 ?_
      refine w_scr hx hb hXs hbl hS (k := i + 1) (v := nI i0) hy1.symm (by omega) hL dL_law_1298 ?_
      refine lv_aload_n hx hb dL_law_1299 rfl (lv_at hl 1 rfl) ?_
      refine lv_iload hx hb dL_law_1300 (lv_at hl 6 rfl) ?_
      refine lv_iconst (v := nI 2) hx hb dL_law_1302 (by decide) ?_
      refine w_iadd hx hb dL_law_1303 ?_
      refine w_scr hx hb hXs hbl hS (k := i + 2) (v := nI k0) hy2.symm (by omega) hL dL_law_1304 ?_
      refine va_calli (va_runV (As := [.int (nI i0), .int (nI k0)]) (rest := []) S (c_X1_possible hn hI' hO' hW' (pt := (fun i j => gp (6 * i + j))) (fun _ _ _ _ => rfl) hi0 hk0 hq') (cwV 2 hts gL_law_X1_possible rfl rfl rfl hdX1_possible ⟨Nat.le_of_ble_eq_true rfl, Nat.le_of_ble_eq_true rfl⟩) (preV hK2 hPm rfl rfl) rfl rfl hl.1 rfl (lv_room (Nat.le_of_ble_eq_true rfl)) dL_law_1305 ⟨Nat.le_trans (Nat.le_succ _) hc.1, Nat.le_trans (Nat.le_add_right _ 6) hc.2⟩) hS (fun _ _ h => hA2 _ h) (fun _ h => hA2 _ h) (fun r2 u2 t H locs ht hvm hw2 hB hz hk hS => ?_)
      have hPx := keepA hPx (D12_of hd rfl) (fun x h1 h2 => hdis x h2 h1) hk
      replace hB : va_P D cls2 (mW q' cI cD (nI 0) (nI n) rC hh gi go gw ge gr gf u2.1 u2.2.1 u2.2.2) t.heap := hB
      rw [ht] at hB
      have hPm := hB
      replace hw2 : r2 = if psb n (opn w) inf out = true then (ltO n (opn w) n ((fun i j => gp (6 * i + j)), inf, out)).1 i0 k0 else -1 := hw2
      rw [hw2, ← tab_all hn hbI hbO (fun i j => fp (6 * i + j)) (fun i j => gp (6 * i + j)) hi0 hk0]
      refine lv_istore (lv' := [(7, .int ((tbO n (opn w) inf (psb n (opn w) inf out) n ((fun i j => fp (6 * i + j)), out)).1 i0 k0)), (6, .int (nI 0)), (0, .ref b), (1, .ref (q 0)), (2, .ref (q' 0)), (3, .ref o), (4, .ref o2), (5, .int (nI i))]) hx hb dL_law_1308 hl (by decide) rfl (fun ls hl => ?_)
      refine lv_aload_n hx hb dL_law_1310 rfl (lv_at hl 4 rfl) ?_
      refine vp_callSi (W.runV (As := []) (rest := []) S (c_X1_thrown) (cwV 0 hts gL_law_X1_thrown rfl rfl rfl hdX1_thrown ⟨Nat.le_of_ble_eq_true rfl, Nat.le_of_ble_eq_true rfl⟩) (preV hK2 hPm rfl rfl) rfl rfl hl.1 rfl (lv_room (Nat.le_of_ble_eq_true rfl)) dL_law_1311 ⟨Nat.le_trans (Nat.le_succ _) hc.1, Nat.le_trans (Nat.le_add_right _ 6) hc.2⟩) (fun r3 er3 => ?_)
      subst er3
      refine lv_iload hx hb dL_law_1314 (lv_at hl 1 rfl) ?_
      refine lv_icmp_eq (tgt := 1321) hx hb dL_law_1316 (by decide) (fun _ => ?_) (fun h => absurd rfl h)
      refine lv_iload hx hb dL_law_1321 (lv_at hl 1 rfl) ?_
      refine lv_if_ne (tgt := 1338) hx hb dL_law_1323 (by decide) (fun h1323_0 => absurd (by decide) h1323_0) (fun h1323_0 => ?_)
      refine lv_aload_n hx hb dL_law_1326 rfl (lv_at hl 5 rfl) ?_
      refine lv_iconst (v := nI 0) hx hb dL_law_1327 (by decide) ?_
      refine w_lald hx hb hK hPx 10 2 rfl rfl (j := 0) (v := Int32.toInt64 ((tbO n (opn w) inf (psb n (opn w) inf out) n ((fun i j => fp (6 * i + j)), out)).1 i0 k0)) (updL_self _ _ _) (by decide) (by decide) dL_law_1328 ?_
      refine lv_iload hx hb dL_law_1329 (lv_at hl 0 rfl) ?_
      refine lv_i2l hx hb dL_law_1331 rfl ?_
      refine w_lcmp0 hx hb dL_law_1332 ?_
      refine lv_if_eq (tgt := 1338) hx hb dL_law_1333 (by decide) (fun h1333_1 => ?_) (fun h1333_1 => absurd (by decide) h1333_1)
      refine lv_goto (tgt := 1355) hx hb dL_law_1338 (by decide) ?_
      refine W.widen (k := cells + 1) (n := slots + 6) (Nat.le_succ _) (Nat.le_add_right _ 6) ?_
      exact K n rC inf out w e _ _ _ hOK ⟨_, _, _, _, _, _, _, _, _, _, _, hPx, hI, hO, hW, hE, _, hT, hT2⟩ ⟨_, _, _, _, _, _, _, _, _, _, _, hPm, hI', hO', hW', hE'⟩ hS (lv_sub hl [2, 3, 4, 5, 6, 7] rfl)
    · replace h2 := Bool.not_eq_true _ |>.mp h2
      refine lv_aload_n hx hb dL_law_1273 rfl (lv_at hl 1 rfl) ?_
      refine lv_aload_n hx hb dL_law_1274 rfl (lv_at hl 0 rfl) ?_
      refine lv_iload hx hb dL_law_1275 (lv_at hl 5 rfl) ?_
      refine lv_iconst (v := nI 1) hx hb dL_law_1277 (by decide) ?_
      refine w_iadd hx hb dL_law_1278 ?_
      refine w_scr hx hb hXs hbl hS (k := i + 1) (v := nI i0) hy1.symm (by omega) hL dL_law_1279 ?_
      refine lv_aload_n hx hb dL_law_1280 rfl (lv_at hl 0 rfl) ?_
      refine lv_iload hx hb dL_law_1281 (lv_at hl 5 rfl) ?_
      refine lv_iconst (v := nI 2) hx hb dL_law_1283 (by decide) ?_
      refine w_iadd hx hb dL_law_1284 ?_
      refine w_scr hx hb hXs hbl hS (k := i + 2) (v := y2) hy2.symm (by omega) hL dL_law_1285 ?_
      refine lv_aload_n hx hb dL_law_1286 rfl (lv_at hl 3 rfl) ?_
      refine va_calli (vx_runSW (As := [.ref (q 0), .int (nI i0), .int y2, .ref o]) (rest := []) S (z_L_possible1 ⟨rfl, rfl, Nat.le_of_ble_eq_true rfl, Nat.le_of_ble_eq_true rfl⟩ (x_X0_possible2 hlt hn hi0 h2)) (vx_cwSW 4 hts gL_law_L_possible rfl rfl rfl hdL_possible ⟨Nat.le_of_ble_eq_true rfl, Nat.le_of_ble_eq_true rfl⟩) (preSX hK hPx (xG.keep hG hS)) rfl rfl hl.1 rfl (lv_room (Nat.le_of_ble_eq_true rfl)) dL_law_1287 ⟨hc.1, hc.2⟩) hS (fun _ _ h => h.elim) (fun _ h => h.elim) (fun r1 u1 t H locs ht hvm hw hB hz hk hS => ?_)
      have hPm := keepA hPm (wD_of hq' rfl) (fun x _ h => h) hk
      replace hw : r1 = nI 1 := hw
      subst hw
      replace hB : va_P D cls2 (cW q cI cD (nI n) rC fi fo fw fe ft fr fp fl ff ++ oW o o2 cJ cD f1 f2) t.heap := hB
      rw [ht] at hB
      have hPx := hB
      refine lv_istore (lv' := [(6, .int (nI 1)), (0, .ref b), (1, .ref (q 0)), (2, .ref (q' 0)), (3, .ref o), (4, .ref o2), (5, .int (nI i))]) hx hb dL_law_1290 hl (by decide) rfl (fun ls hl => ?_)
      refine lv_aload_n hx hb dL_law_1292 rfl (lv_at hl 3 rfl) ?_
      refine lv_aload_n hx hb dL_law_1293 rfl (lv_at hl 1 rfl) ?_
      refine lv_iload hx hb dL_law_1294 (lv_at hl 6 rfl) ?_
      refine lv_iconst (v := nI 1) hx hb dL_law_1296 (by decide) ?_
      refine w_iadd hx hb dL_law_1297 ?_
      refine w_scr hx hb hXs hbl hS (k := i + 1) (v := nI i0) hy1.symm (by omega) hL dL_law_1298 ?_
      refine lv_aload_n hx hb dL_law_1299 rfl (lv_at hl 1 rfl) ?_
      refine lv_iload hx hb dL_law_1300 (lv_at hl 6 rfl) ?_
      refine lv_iconst (v := nI 2) hx hb dL_law_1302 (by decide) ?_
      refine w_iadd hx hb dL_law_1303 ?_
      refine w_scr hx hb hXs hbl hS (k := i + 2) (v := y2) hy2.symm (by omega) hL dL_law_1304 ?_
      refine va_calli (va_runV (As := [.int (nI i0), .int y2]) (rest := []) S (c_X1_possiblex hn (by rw [h2, Bool.and_false]) hq') (cwV 2 hts gL_law_X1_possible rfl rfl rfl hdX1_possible ⟨Nat.le_of_ble_eq_true rfl, Nat.le_of_ble_eq_true rfl⟩) (preV hK2 hPm rfl rfl) rfl rfl hl.1 rfl (lv_room (Nat.le_of_ble_eq_true rfl)) dL_law_1305 ⟨hc.1, hc.2⟩) hS (fun _ _ h => hA2 _ h) (fun _ h => hA2 _ h) (fun r2 u2 t H locs ht hvm hw2 hB hz hk hS => ?_)
      have hPx := keepA hPx (D12_of hd rfl) (fun x h1 h2 => hdis x h2 h1) hk
      replace hB : va_P D cls2 (mW q' cI cD (nI 1) (nI n) rC hh gi go gw ge gr gf gp gl gc) t.heap := hB
      rw [ht] at hB
      have hPm := hB
      refine lv_istore (lv' := [(7, .int r2), (6, .int (nI 1)), (0, .ref b), (1, .ref (q 0)), (2, .ref (q' 0)), (3, .ref o), (4, .ref o2), (5, .int (nI i))]) hx hb dL_law_1308 hl (by decide) rfl (fun ls hl => ?_)
      refine lv_aload_n hx hb dL_law_1310 rfl (lv_at hl 4 rfl) ?_
      refine vp_callSi (W.runV (As := []) (rest := []) S (c_X1_thrown) (cwV 0 hts gL_law_X1_thrown rfl rfl rfl hdX1_thrown ⟨Nat.le_of_ble_eq_true rfl, Nat.le_of_ble_eq_true rfl⟩) (preV hK2 hPm rfl rfl) rfl rfl hl.1 rfl (lv_room (Nat.le_of_ble_eq_true rfl)) dL_law_1311 ⟨hc.1, hc.2⟩) (fun r3 er3 => ?_)
      subst er3
      refine lv_iload hx hb dL_law_1314 (lv_at hl 1 rfl) ?_
      refine lv_icmp_eq (tgt := 1321) hx hb dL_law_1316 (by decide) (fun _ => ?_) (fun h => absurd rfl h)
      refine lv_iload hx hb dL_law_1321 (lv_at hl 1 rfl) ?_
      refine lv_if_ne (tgt := 1338) hx hb dL_law_1323 (by decide) (fun h1323_0 => ?_) (fun h1323_0 => absurd h1323_0 (by decide))
      refine lv_goto (tgt := 1355) hx hb dL_law_1338 (by decide) ?_
      exact K n rC inf out w e _ _ _ hOK ⟨_, _, _, _, _, _, _, _, _, _, _, hPx, hI, hO, hW, hE, _, hT, hT2⟩ ⟨_, _, _, _, _, _, _, _, _, _, _, hPm, hI', hO', hW', hE'⟩ hS (lv_sub hl [2, 3, 4, 5, 6, 7] rfl)
  · replace h1 := Bool.not_eq_true _ |>.mp h1
    refine lv_aload_n hx hb dL_law_1273 rfl (lv_at hl 1 rfl) ?_
    refine lv_aload_n hx hb dL_law_1274 rfl (lv_at hl 0 rfl) ?_
    refine lv_iload hx hb dL_law_1275 (lv_at hl 5 rfl) ?_
    refine lv_iconst (v := nI 1) hx hb dL_law_1277 (by decide) ?_
    refine w_iadd hx hb dL_law_1278 ?_
    refine w_scr hx hb hXs hbl hS (k := i + 1) (v := y1) hy1.symm (by omega) hL dL_law_1279 ?_
    refine lv_aload_n hx hb dL_law_1280 rfl (lv_at hl 0 rfl) ?_
    refine lv_iload hx hb dL_law_1281 (lv_at hl 5 rfl) ?_
    refine lv_iconst (v := nI 2) hx hb dL_law_1283 (by decide) ?_
    refine w_iadd hx hb dL_law_1284 ?_
    refine w_scr hx hb hXs hbl hS (k := i + 2) (v := y2) hy2.symm (by omega) hL dL_law_1285 ?_
    refine lv_aload_n hx hb dL_law_1286 rfl (lv_at hl 3 rfl) ?_
    refine va_calli (vx_runSW (As := [.ref (q 0), .int y1, .int y2, .ref o]) (rest := []) S (z_L_possible1 ⟨rfl, rfl, Nat.le_of_ble_eq_true rfl, Nat.le_of_ble_eq_true rfl⟩ (x_X0_possible1 hlt hn h1)) (vx_cwSW 4 hts gL_law_L_possible rfl rfl rfl hdL_possible ⟨Nat.le_of_ble_eq_true rfl, Nat.le_of_ble_eq_true rfl⟩) (preSX hK hPx (xG.keep hG hS)) rfl rfl hl.1 rfl (lv_room (Nat.le_of_ble_eq_true rfl)) dL_law_1287 ⟨hc.1, hc.2⟩) hS (fun _ _ h => h.elim) (fun _ h => h.elim) (fun r1 u1 t H locs ht hvm hw hB hz hk hS => ?_)
    have hPm := keepA hPm (wD_of hq' rfl) (fun x _ h => h) hk
    replace hw : r1 = nI 1 := hw
    subst hw
    replace hB : va_P D cls2 (cW q cI cD (nI n) rC fi fo fw fe ft fr fp fl ff ++ oW o o2 cJ cD f1 f2) t.heap := hB
    rw [ht] at hB
    have hPx := hB
    refine lv_istore (lv' := [(6, .int (nI 1)), (0, .ref b), (1, .ref (q 0)), (2, .ref (q' 0)), (3, .ref o), (4, .ref o2), (5, .int (nI i))]) hx hb dL_law_1290 hl (by decide) rfl (fun ls hl => ?_)
    refine lv_aload_n hx hb dL_law_1292 rfl (lv_at hl 3 rfl) ?_
    refine lv_aload_n hx hb dL_law_1293 rfl (lv_at hl 1 rfl) ?_
    refine lv_iload hx hb dL_law_1294 (lv_at hl 6 rfl) ?_
    refine lv_iconst (v := nI 1) hx hb dL_law_1296 (by decide) ?_
    refine w_iadd hx hb dL_law_1297 ?_
    refine w_scr hx hb hXs hbl hS (k := i + 1) (v := y1) hy1.symm (by omega) hL dL_law_1298 ?_
    refine lv_aload_n hx hb dL_law_1299 rfl (lv_at hl 1 rfl) ?_
    refine lv_iload hx hb dL_law_1300 (lv_at hl 6 rfl) ?_
    refine lv_iconst (v := nI 2) hx hb dL_law_1302 (by decide) ?_
    refine w_iadd hx hb dL_law_1303 ?_
    refine w_scr hx hb hXs hbl hS (k := i + 2) (v := y2) hy2.symm (by omega) hL dL_law_1304 ?_
    refine va_calli (va_runV (As := [.int y1, .int y2]) (rest := []) S (c_X1_possiblex hn (by rw [h1, Bool.false_and]) hq') (cwV 2 hts gL_law_X1_possible rfl rfl rfl hdX1_possible ⟨Nat.le_of_ble_eq_true rfl, Nat.le_of_ble_eq_true rfl⟩) (preV hK2 hPm rfl rfl) rfl rfl hl.1 rfl (lv_room (Nat.le_of_ble_eq_true rfl)) dL_law_1305 ⟨hc.1, hc.2⟩) hS (fun _ _ h => hA2 _ h) (fun _ h => hA2 _ h) (fun r2 u2 t H locs ht hvm hw2 hB hz hk hS => ?_)
    have hPx := keepA hPx (D12_of hd rfl) (fun x h1 h2 => hdis x h2 h1) hk
    replace hB : va_P D cls2 (mW q' cI cD (nI 1) (nI n) rC hh gi go gw ge gr gf gp gl gc) t.heap := hB
    rw [ht] at hB
    have hPm := hB
    refine lv_istore (lv' := [(7, .int r2), (6, .int (nI 1)), (0, .ref b), (1, .ref (q 0)), (2, .ref (q' 0)), (3, .ref o), (4, .ref o2), (5, .int (nI i))]) hx hb dL_law_1308 hl (by decide) rfl (fun ls hl => ?_)
    refine lv_aload_n hx hb dL_law_1310 rfl (lv_at hl 4 rfl) ?_
    refine vp_callSi (W.runV (As := []) (rest := []) S (c_X1_thrown) (cwV 0 hts gL_law_X1_thrown rfl rfl rfl hdX1_thrown ⟨Nat.le_of_ble_eq_true rfl, Nat.le_of_ble_eq_true rfl⟩) (preV hK2 hPm rfl rfl) rfl rfl hl.1 rfl (lv_room (Nat.le_of_ble_eq_true rfl)) dL_law_1311 ⟨hc.1, hc.2⟩) (fun r3 er3 => ?_)
    subst er3
    refine lv_iload hx hb dL_law_1314 (lv_at hl 1 rfl) ?_
    refine lv_icmp_eq (tgt := 1321) hx hb dL_law_1316 (by decide) (fun _ => ?_) (fun h => absurd rfl h)
    refine lv_iload hx hb dL_law_1321 (lv_at hl 1 rfl) ?_
    refine lv_if_ne (tgt := 1338) hx hb dL_law_1323 (by decide) (fun h1323_0 => ?_) (fun h1323_0 => absurd h1323_0 (by decide))
    refine lv_goto (tgt := 1355) hx hb dL_law_1338 (by decide) ?_
    exact K n rC inf out w e _ _ _ hOK ⟨_, _, _, _, _, _, _, _, _, _, _, hPx, hI, hO, hW, hE, _, hT, hT2⟩ ⟨_, _, _, _, _, _, _, _, _, _, _, hPm, hI', hO', hW', hE'⟩ hS (lv_sub hl [2, 3, 4, 5, 6, 7] rfl)
