set_option maxHeartbeats 8000000 in
set_option maxRecDepth 100000 in
theorem law_1 {p : Program} {l : Launch} {e9 : Env} {s : State} {m : MethodId} {below : List Frame} {meth : Method} {c : Code} {b L : Nat} {xs : Nat → Int32} {D : va_G} {q q' : Nat → Nat} {o o2 : Nat} {cI cD cJ : ClassId} {sa : Nat → Nat} {i cells slots : Nat} {Q : State → Prop} (C : LCx p l s m meth c b L xs D q q' o o2 cI cD cJ sa) (hi : i + 4 < L) (hc : cells + 1 ≤ 3098 ∧ slots + 6 ≤ 119182) (K : LK p l e9 s m below meth c b D q q' o o2 cI cD cJ i cells slots Q)
    {n : Nat} {rC : Int32} {inf out : Nat → Int32} {w : Nat → Nat → Int32} {e : Nat → Nat → UInt64} {H : Heap} {locs : List Loc} {ls : Array Slot} (hOK : OKs n inf out w e) (hX : LX D q o o2 cI cD cJ n rC inf out w e H) (hM : LM D q' cI cD n rC inf out w e H) (hS : va_S (fun x : Nat => s.heap.size ≤ x) s.heap H locs) (hl : lv_has ls 10 (lvL q q' b o o2 i)) : W p l e9 room_1 s m #[Value.ref b] below meth c H locs cells slots Q (F0 m 212 ls []) := by
  obtain ⟨S, ⟨hr, hlocks⟩, hK, ⟨hd, hq', hdis⟩, ⟨hXs, hbl, hL⟩, hA1, hA2, hG, hlt⟩ := C
  obtain ⟨hx, hb, hml, hown, hts⟩ := id S
  obtain ⟨fi, fo, fw, fe, ft, fr, fp, fl, ff, f1, f2, hPx, hI, hO, hW, hE, T, hT, hT2⟩ := hX
  obtain ⟨th, hh, gi, go, gw, ge, gr, gf, gp, gl, gc, hPm, hI', hO', hW', hE'⟩ := hM
  have hK2 : va_K D cls2 (tys2 cI cD) s := hK.sub [0, 1] rfl
  have hq := hd.1
  obtain ⟨hn, hbI, hbO, hbW, hgE⟩ := id hOK
  refine lv_aload_n hx hb dL_law_212 rfl (lv_at hl 1 rfl) ?_
  refine vp_callSi (W.runV (As := []) (rest := []) S (c_X0_arms (rC := rC) (n := n)) (cwV 0 hts gL_law_X0_arms rfl rfl rfl hdX0_arms ⟨Nat.le_of_ble_eq_true rfl, Nat.le_of_ble_eq_true rfl⟩) (preV hK2 (va_P.sub hPx [0, 1, 2, 3, 4, 5, 6, 7, 8, 9] rfl) rfl rfl) rfl rfl hl.1 rfl (lv_room (Nat.le_of_ble_eq_true rfl)) dL_law_213 ⟨Nat.le_trans (Nat.le_succ _) hc.1, Nat.le_trans (Nat.le_add_right _ 6) hc.2⟩) (fun r1 er1 => ?_)
  rw [er1]
  refine lv_aload_n hx hb dL_law_216 rfl (lv_at hl 2 rfl) ?_
  refine va_calli (va_runV (As := []) (rest := [.int (nI n)]) S (c_X1_arms hq') (cwV 0 hts gL_law_X1_arms rfl rfl rfl hdX1_arms ⟨Nat.le_of_ble_eq_true rfl, Nat.le_of_ble_eq_true rfl⟩) (preV hK2 hPm rfl rfl) rfl rfl hl.1 rfl (lv_room (Nat.le_of_ble_eq_true rfl)) dL_law_217 ⟨Nat.le_trans (Nat.le_succ _) hc.1, Nat.le_trans (Nat.le_add_right _ 6) hc.2⟩) hS (fun _ _ h => hA2 _ h) (fun _ h => hA2 _ h) (fun r2 u2 t H locs ht hvm hw2 hB hz hk hS => ?_)
  have hPx := keepA hPx (D12_of hd rfl) (fun x h1 h2 => hdis x h2 h1) hk
  replace hB : va_P D cls2 (mW q' cI cD (nI 0) (nI n) rC hh gi go gw ge gr gf gp gl gc) t.heap := hB
  rw [ht] at hB
  have hPm := hB
  replace hw2 : r2 = nI n := hw2
  rw [hw2]
  refine lv_icmp_eq (tgt := 1355) hx hb dL_law_220 (by decide) (fun _ => ?_) (fun h => absurd rfl h)
  refine W.widen (k := cells + 1) (n := slots + 6) (Nat.le_succ _) (Nat.le_add_right _ 6) ?_
  exact K n rC inf out w e _ _ _ hOK ⟨_, _, _, _, _, _, _, _, _, _, _, hPx, hI, hO, hW, hE, _, hT, hT2⟩ ⟨_, _, _, _, _, _, _, _, _, _, _, hPm, hI', hO', hW', hE'⟩ hS (lv_sub hl [0, 1, 2, 3, 4, 5] rfl)
set_option maxHeartbeats 8000000 in
set_option maxRecDepth 100000 in
theorem law_6 {p : Program} {l : Launch} {e9 : Env} {s : State} {m : MethodId} {below : List Frame} {meth : Method} {c : Code} {b L : Nat} {xs : Nat → Int32} {D : va_G} {q q' : Nat → Nat} {o o2 : Nat} {cI cD cJ : ClassId} {sa : Nat → Nat} {i cells slots : Nat} {Q : State → Prop} (C : LCx p l s m meth c b L xs D q q' o o2 cI cD cJ sa) (hi : i + 4 < L) (hc : cells + 1 ≤ 3098 ∧ slots + 6 ≤ 119182) (K : LK p l e9 s m below meth c b D q q' o o2 cI cD cJ i cells slots Q)
    {n : Nat} {rC : Int32} {inf out : Nat → Int32} {w : Nat → Nat → Int32} {e : Nat → Nat → UInt64} {H : Heap} {locs : List Loc} {ls : Array Slot} (hOK : OKs n inf out w e) (hX : LX D q o o2 cI cD cJ n rC inf out w e H) (hM : LM D q' cI cD n rC inf out w e H) (hS : va_S (fun x : Nat => s.heap.size ≤ x) s.heap H locs) (hl : lv_has ls 10 (lvL q q' b o o2 i)) : W p l e9 room_1 s m #[Value.ref b] below meth c H locs cells slots Q (F0 m 497 ls []) := by
  obtain ⟨S, ⟨hr, hlocks⟩, hK, ⟨hd, hq', hdis⟩, ⟨hXs, hbl, hL⟩, hA1, hA2, hG, hlt⟩ := C
  obtain ⟨hx, hb, hml, hown, hts⟩ := id S
  obtain ⟨fi, fo, fw, fe, ft, fr, fp, fl, ff, f1, f2, hPx, hI, hO, hW, hE, T, hT, hT2⟩ := hX
  obtain ⟨th, hh, gi, go, gw, ge, gr, gf, gp, gl, gc, hPm, hI', hO', hW', hE'⟩ := hM
  have hK2 : va_K D cls2 (tys2 cI cD) s := hK.sub [0, 1] rfl
  have hq := hd.1
  obtain ⟨hn, hbI, hbO, hbW, hgE⟩ := id hOK
  refine lv_aload_n hx hb dL_law_497 rfl (lv_at hl 1 rfl) ?_
  refine vp_callSi (W.runV (As := []) (rest := []) S (c_X0_imbalance hn hI hO) (cwV 0 hts gL_law_X0_imbalance rfl rfl rfl hdX0_imbalance ⟨Nat.le_of_ble_eq_true rfl, Nat.le_of_ble_eq_true rfl⟩) (preV hK2 (va_P.sub hPx [0, 1, 2, 3, 4, 5, 6, 7, 8, 9] rfl) rfl rfl) rfl rfl hl.1 rfl (lv_room (Nat.le_of_ble_eq_true rfl)) dL_law_498 ⟨Nat.le_trans (Nat.le_succ _) hc.1, Nat.le_trans (Nat.le_add_right _ 6) hc.2⟩) (fun r1 er1 => ?_)
  rw [er1]
  refine lv_aload_n hx hb dL_law_501 rfl (lv_at hl 2 rfl) ?_
  refine va_calli (va_runV (As := []) (rest := [.int (dif n inf out)]) S (c_X1_imbalance hn hI' hO' hq') (cwV 0 hts gL_law_X1_imbalance rfl rfl rfl hdX1_imbalance ⟨Nat.le_of_ble_eq_true rfl, Nat.le_of_ble_eq_true rfl⟩) (preV hK2 hPm rfl rfl) rfl rfl hl.1 rfl (lv_room (Nat.le_of_ble_eq_true rfl)) dL_law_502 ⟨Nat.le_trans (Nat.le_succ _) hc.1, Nat.le_trans (Nat.le_add_right _ 6) hc.2⟩) hS (fun _ _ h => hA2 _ h) (fun _ h => hA2 _ h) (fun r2 u2 t H locs ht hvm hw2 hB hz hk hS => ?_)
  have hPx := keepA hPx (D12_of hd rfl) (fun x h1 h2 => hdis x h2 h1) hk
  replace hB : va_P D cls2 (mW q' cI cD (nI 0) (nI n) rC hh gi go gw ge gr gf gp gl gc) t.heap := hB
  rw [ht] at hB
  have hPm := hB
  replace hw2 : r2 = dif n inf out := hw2
  rw [hw2]
  refine lv_icmp_eq (tgt := 1355) hx hb dL_law_505 (by decide) (fun _ => ?_) (fun h => absurd rfl h)
  refine W.widen (k := cells + 1) (n := slots + 6) (Nat.le_succ _) (Nat.le_add_right _ 6) ?_
  exact K n rC inf out w e _ _ _ hOK ⟨_, _, _, _, _, _, _, _, _, _, _, hPx, hI, hO, hW, hE, _, hT, hT2⟩ ⟨_, _, _, _, _, _, _, _, _, _, _, hPm, hI', hO', hW', hE'⟩ hS (lv_sub hl [0, 1, 2, 3, 4, 5] rfl)
set_option maxHeartbeats 8000000 in
set_option maxRecDepth 100000 in
theorem law_7 {p : Program} {l : Launch} {e9 : Env} {s : State} {m : MethodId} {below : List Frame} {meth : Method} {c : Code} {b L : Nat} {xs : Nat → Int32} {D : va_G} {q q' : Nat → Nat} {o o2 : Nat} {cI cD cJ : ClassId} {sa : Nat → Nat} {i cells slots : Nat} {Q : State → Prop} (C : LCx p l s m meth c b L xs D q q' o o2 cI cD cJ sa) (hi : i + 4 < L) (hc : cells + 1 ≤ 3098 ∧ slots + 6 ≤ 119182) (K : LK p l e9 s m below meth c b D q q' o o2 cI cD cJ i cells slots Q)
    {n : Nat} {rC : Int32} {inf out : Nat → Int32} {w : Nat → Nat → Int32} {e : Nat → Nat → UInt64} {H : Heap} {locs : List Loc} {ls : Array Slot} (hOK : OKs n inf out w e) (hX : LX D q o o2 cI cD cJ n rC inf out w e H) (hM : LM D q' cI cD n rC inf out w e H) (hS : va_S (fun x : Nat => s.heap.size ≤ x) s.heap H locs) (hl : lv_has ls 10 (lvL q q' b o o2 i)) : W p l e9 room_1 s m #[Value.ref b] below meth c H locs cells slots Q (F0 m 510 ls []) := by
  obtain ⟨S, ⟨hr, hlocks⟩, hK, ⟨hd, hq', hdis⟩, ⟨hXs, hbl, hL⟩, hA1, hA2, hG, hlt⟩ := C
  obtain ⟨hx, hb, hml, hown, hts⟩ := id S
  obtain ⟨fi, fo, fw, fe, ft, fr, fp, fl, ff, f1, f2, hPx, hI, hO, hW, hE, T, hT, hT2⟩ := hX
  obtain ⟨th, hh, gi, go, gw, ge, gr, gf, gp, gl, gc, hPm, hI', hO', hW', hE'⟩ := hM
  have hK2 : va_K D cls2 (tys2 cI cD) s := hK.sub [0, 1] rfl
  have hq := hd.1
  obtain ⟨hn, hbI, hbO, hbW, hgE⟩ := id hOK
  refine lv_aload_n hx hb dL_law_510 rfl (lv_at hl 1 rfl) ?_
  refine vp_callSi (W.runV (As := []) (rest := []) S (c_X0_isPossible hn hI hO hT hT2) (cwV 0 hts gL_law_X0_isPossible rfl rfl rfl hdX0_isPossible ⟨Nat.le_of_ble_eq_true rfl, Nat.le_of_ble_eq_true rfl⟩) (preV hK2 (va_P.sub hPx [0, 1, 2, 3, 4, 5, 6, 7, 8, 9] rfl) rfl rfl) rfl rfl hl.1 rfl (lv_room (Nat.le_of_ble_eq_true rfl)) dL_law_511 ⟨Nat.le_trans (Nat.le_succ _) hc.1, Nat.le_trans (Nat.le_add_right _ 6) hc.2⟩) (fun r1 er1 => ?_)
  rw [er1]
  refine lv_aload_n hx hb dL_law_514 rfl (lv_at hl 2 rfl) ?_
  refine va_calli (va_runV (As := []) (rest := [.int (bI (psb n (opn w) inf out))]) S (c_X1_isPossible hn hI' hO' hW' hq') (cwV 0 hts gL_law_X1_isPossible rfl rfl rfl hdX1_isPossible ⟨Nat.le_of_ble_eq_true rfl, Nat.le_of_ble_eq_true rfl⟩) (preV hK2 hPm rfl rfl) rfl rfl hl.1 rfl (lv_room (Nat.le_of_ble_eq_true rfl)) dL_law_515 ⟨Nat.le_trans (Nat.le_succ _) hc.1, Nat.le_trans (Nat.le_add_right _ 6) hc.2⟩) hS (fun _ _ h => hA2 _ h) (fun _ h => hA2 _ h) (fun r2 u2 t H locs ht hvm hw2 hB hz hk hS => ?_)
  have hPx := keepA hPx (D12_of hd rfl) (fun x h1 h2 => hdis x h2 h1) hk
  replace hB : va_P D cls2 (mW q' cI cD (nI 0) (nI n) rC hh gi go gw ge gr gf gp gl gc) t.heap := hB
  rw [ht] at hB
  have hPm := hB
  replace hw2 : r2 = bI (psb n (opn w) inf out) := hw2
  rw [hw2]
  refine lv_icmp_eq (tgt := 1355) hx hb dL_law_518 (by decide) (fun _ => ?_) (fun h => absurd rfl h)
  refine W.widen (k := cells + 1) (n := slots + 6) (Nat.le_succ _) (Nat.le_add_right _ 6) ?_
  exact K n rC inf out w e _ _ _ hOK ⟨_, _, _, _, _, _, _, _, _, _, _, hPx, hI, hO, hW, hE, _, hT, hT2⟩ ⟨_, _, _, _, _, _, _, _, _, _, _, hPm, hI', hO', hW', hE'⟩ hS (lv_sub hl [0, 1, 2, 3, 4, 5] rfl)
set_option maxHeartbeats 8000000 in
set_option maxRecDepth 100000 in
theorem law_8 {p : Program} {l : Launch} {e9 : Env} {s : State} {m : MethodId} {below : List Frame} {meth : Method} {c : Code} {b L : Nat} {xs : Nat → Int32} {D : va_G} {q q' : Nat → Nat} {o o2 : Nat} {cI cD cJ : ClassId} {sa : Nat → Nat} {i cells slots : Nat} {Q : State → Prop} (C : LCx p l s m meth c b L xs D q q' o o2 cI cD cJ sa) (hi : i + 4 < L) (hc : cells + 1 ≤ 3098 ∧ slots + 6 ≤ 119182) (K : LK p l e9 s m below meth c b D q q' o o2 cI cD cJ i cells slots Q)
    {n : Nat} {rC : Int32} {inf out : Nat → Int32} {w : Nat → Nat → Int32} {e : Nat → Nat → UInt64} {H : Heap} {locs : List Loc} {ls : Array Slot} (hOK : OKs n inf out w e) (hX : LX D q o o2 cI cD cJ n rC inf out w e H) (hM : LM D q' cI cD n rC inf out w e H) (hS : va_S (fun x : Nat => s.heap.size ≤ x) s.heap H locs) (hl : lv_has ls 10 (lvL q q' b o o2 i)) : W p l e9 room_1 s m #[Value.ref b] below meth c H locs cells slots Q (F0 m 523 ls []) := by
  obtain ⟨S, ⟨hr, hlocks⟩, hK, ⟨hd, hq', hdis⟩, ⟨hXs, hbl, hL⟩, hA1, hA2, hG, hlt⟩ := C
  obtain ⟨hx, hb, hml, hown, hts⟩ := id S
  obtain ⟨fi, fo, fw, fe, ft, fr, fp, fl, ff, f1, f2, hPx, hI, hO, hW, hE, T, hT, hT2⟩ := hX
  obtain ⟨th, hh, gi, go, gw, ge, gr, gf, gp, gl, gc, hPm, hI', hO', hW', hE'⟩ := hM
  have hK2 : va_K D cls2 (tys2 cI cD) s := hK.sub [0, 1] rfl
  have hq := hd.1
  obtain ⟨hn, hbI, hbO, hbW, hgE⟩ := id hOK
  refine lv_aload_n hx hb dL_law_523 rfl (lv_at hl 1 rfl) ?_
  refine vp_callSi (W.runV (As := []) (rest := []) S (c_X0_crowdedSet hn hI hO hT hT2) (cwV 0 hts gL_law_X0_crowdedSet rfl rfl rfl hdX0_crowdedSet ⟨Nat.le_of_ble_eq_true rfl, Nat.le_of_ble_eq_true rfl⟩) (preV hK2 (va_P.sub hPx [0, 1, 2, 3, 4, 5, 6, 7, 8, 9] rfl) rfl rfl) rfl rfl hl.1 rfl (lv_room (Nat.le_of_ble_eq_true rfl)) dL_law_524 ⟨Nat.le_trans (Nat.le_succ _) hc.1, Nat.le_trans (Nat.le_add_right _ 6) hc.2⟩) (fun r1 er1 => ?_)
  rw [er1]
  refine lv_aload_n hx hb dL_law_527 rfl (lv_at hl 2 rfl) ?_
  refine va_calli (va_runV (As := []) (rest := [.int (crd n (opn w) inf out)]) S (c_X1_crowdedSet hn hI' hO' hW' hq') (cwV 0 hts gL_law_X1_crowdedSet rfl rfl rfl hdX1_crowdedSet ⟨Nat.le_of_ble_eq_true rfl, Nat.le_of_ble_eq_true rfl⟩) (preV hK2 hPm rfl rfl) rfl rfl hl.1 rfl (lv_room (Nat.le_of_ble_eq_true rfl)) dL_law_528 ⟨Nat.le_trans (Nat.le_succ _) hc.1, Nat.le_trans (Nat.le_add_right _ 6) hc.2⟩) hS (fun _ _ h => hA2 _ h) (fun _ h => hA2 _ h) (fun r2 u2 t H locs ht hvm hw2 hB hz hk hS => ?_)
  have hPx := keepA hPx (D12_of hd rfl) (fun x h1 h2 => hdis x h2 h1) hk
  replace hB : va_P D cls2 (mW q' cI cD (nI 0) (nI n) rC hh gi go gw ge gr gf gp gl gc) t.heap := hB
  rw [ht] at hB
  have hPm := hB
  replace hw2 : r2 = crd n (opn w) inf out := hw2
  rw [hw2]
  refine lv_icmp_eq (tgt := 1355) hx hb dL_law_531 (by decide) (fun _ => ?_) (fun h => absurd rfl h)
  refine W.widen (k := cells + 1) (n := slots + 6) (Nat.le_succ _) (Nat.le_add_right _ 6) ?_
  exact K n rC inf out w e _ _ _ hOK ⟨_, _, _, _, _, _, _, _, _, _, _, hPx, hI, hO, hW, hE, _, hT, hT2⟩ ⟨_, _, _, _, _, _, _, _, _, _, _, hPm, hI', hO', hW', hE'⟩ hS (lv_sub hl [0, 1, 2, 3, 4, 5] rfl)
set_option maxHeartbeats 8000000 in
set_option maxRecDepth 100000 in
theorem law_13 {p : Program} {l : Launch} {e9 : Env} {s : State} {m : MethodId} {below : List Frame} {meth : Method} {c : Code} {b L : Nat} {xs : Nat → Int32} {D : va_G} {q q' : Nat → Nat} {o o2 : Nat} {cI cD cJ : ClassId} {sa : Nat → Nat} {i cells slots : Nat} {Q : State → Prop} (C : LCx p l s m meth c b L xs D q q' o o2 cI cD cJ sa) (hi : i + 4 < L) (hc : cells + 1 ≤ 3098 ∧ slots + 6 ≤ 119182) (K : LK p l e9 s m below meth c b D q q' o o2 cI cD cJ i cells slots Q)
    {n : Nat} {rC : Int32} {inf out : Nat → Int32} {w : Nat → Nat → Int32} {e : Nat → Nat → UInt64} {H : Heap} {locs : List Loc} {ls : Array Slot} (hOK : OKs n inf out w e) (hX : LX D q o o2 cI cD cJ n rC inf out w e H) (hM : LM D q' cI cD n rC inf out w e H) (hS : va_S (fun x : Nat => s.heap.size ≤ x) s.heap H locs) (hl : lv_has ls 10 (lvL q q' b o o2 i)) : W p l e9 room_1 s m #[Value.ref b] below meth c H locs cells slots Q (F0 m 729 ls []) := by
  obtain ⟨S, ⟨hr, hlocks⟩, hK, ⟨hd, hq', hdis⟩, ⟨hXs, hbl, hL⟩, hA1, hA2, hG, hlt⟩ := C
  obtain ⟨hx, hb, hml, hown, hts⟩ := id S
  obtain ⟨fi, fo, fw, fe, ft, fr, fp, fl, ff, f1, f2, hPx, hI, hO, hW, hE, T, hT, hT2⟩ := hX
  obtain ⟨th, hh, gi, go, gw, ge, gr, gf, gp, gl, gc, hPm, hI', hO', hW', hE'⟩ := hM
  have hK2 : va_K D cls2 (tys2 cI cD) s := hK.sub [0, 1] rfl
  have hq := hd.1
  obtain ⟨hn, hbI, hbO, hbW, hgE⟩ := id hOK
  refine lv_aload_n hx hb dL_law_729 rfl (lv_at hl 1 rfl) ?_
  refine vp_callSi (W.runV (As := []) (rest := []) S (c_X0_rounds (rC := rC) (n := n)) (cwV 0 hts gL_law_X0_rounds rfl rfl rfl hdX0_rounds ⟨Nat.le_of_ble_eq_true rfl, Nat.le_of_ble_eq_true rfl⟩) (preV hK2 (va_P.sub hPx [0, 1, 2, 3, 4, 5, 6, 7, 8, 9] rfl) rfl rfl) rfl rfl hl.1 rfl (lv_room (Nat.le_of_ble_eq_true rfl)) dL_law_730 ⟨Nat.le_trans (Nat.le_succ _) hc.1, Nat.le_trans (Nat.le_add_right _ 6) hc.2⟩) (fun r1 er1 => ?_)
  rw [er1]
  refine lv_aload_n hx hb dL_law_733 rfl (lv_at hl 2 rfl) ?_
  refine va_calli (va_runV (As := []) (rest := [.int rC]) S (c_X1_rounds hq') (cwV 0 hts gL_law_X1_rounds rfl rfl rfl hdX1_rounds ⟨Nat.le_of_ble_eq_true rfl, Nat.le_of_ble_eq_true rfl⟩) (preV hK2 hPm rfl rfl) rfl rfl hl.1 rfl (lv_room (Nat.le_of_ble_eq_true rfl)) dL_law_734 ⟨Nat.le_trans (Nat.le_succ _) hc.1, Nat.le_trans (Nat.le_add_right _ 6) hc.2⟩) hS (fun _ _ h => hA2 _ h) (fun _ h => hA2 _ h) (fun r2 u2 t H locs ht hvm hw2 hB hz hk hS => ?_)
  have hPx := keepA hPx (D12_of hd rfl) (fun x h1 h2 => hdis x h2 h1) hk
  replace hB : va_P D cls2 (mW q' cI cD (nI 0) (nI n) rC hh gi go gw ge gr gf gp gl gc) t.heap := hB
  rw [ht] at hB
  have hPm := hB
  replace hw2 : r2 = rC := hw2
  rw [hw2]
  refine lv_icmp_eq (tgt := 1355) hx hb dL_law_737 (by decide) (fun _ => ?_) (fun h => absurd rfl h)
  refine W.widen (k := cells + 1) (n := slots + 6) (Nat.le_succ _) (Nat.le_add_right _ 6) ?_
  exact K n rC inf out w e _ _ _ hOK ⟨_, _, _, _, _, _, _, _, _, _, _, hPx, hI, hO, hW, hE, _, hT, hT2⟩ ⟨_, _, _, _, _, _, _, _, _, _, _, hPm, hI', hO', hW', hE'⟩ hS (lv_sub hl [0, 1, 2, 3, 4, 5] rfl)
set_option maxHeartbeats 8000000 in
set_option maxRecDepth 100000 in
theorem law_19 {p : Program} {l : Launch} {e9 : Env} {s : State} {m : MethodId} {below : List Frame} {meth : Method} {c : Code} {b L : Nat} {xs : Nat → Int32} {D : va_G} {q q' : Nat → Nat} {o o2 : Nat} {cI cD cJ : ClassId} {sa : Nat → Nat} {i cells slots : Nat} {Q : State → Prop} (C : LCx p l s m meth c b L xs D q q' o o2 cI cD cJ sa) (hi : i + 4 < L) (hc : cells + 1 ≤ 3098 ∧ slots + 6 ≤ 119182) (K : LK p l e9 s m below meth c b D q q' o o2 cI cD cJ i cells slots Q)
    {n : Nat} {rC : Int32} {inf out : Nat → Int32} {w : Nat → Nat → Int32} {e : Nat → Nat → UInt64} {H : Heap} {locs : List Loc} {ls : Array Slot} (hOK : OKs n inf out w e) (hX : LX D q o o2 cI cD cJ n rC inf out w e H) (hM : LM D q' cI cD n rC inf out w e H) (hS : va_S (fun x : Nat => s.heap.size ≤ x) s.heap H locs) (hl : lv_has ls 10 (lvL q q' b o o2 i)) : W p l e9 room_1 s m #[Value.ref b] below meth c H locs cells slots Q (F0 m 1179 ls []) := by
  obtain ⟨S, ⟨hr, hlocks⟩, hK, ⟨hd, hq', hdis⟩, ⟨hXs, hbl, hL⟩, hA1, hA2, hG, hlt⟩ := C
  obtain ⟨hx, hb, hml, hown, hts⟩ := id S
  obtain ⟨fi, fo, fw, fe, ft, fr, fp, fl, ff, f1, f2, hPx, hI, hO, hW, hE, T, hT, hT2⟩ := hX
  obtain ⟨th, hh, gi, go, gw, ge, gr, gf, gp, gl, gc, hPm, hI', hO', hW', hE'⟩ := hM
  have hK2 : va_K D cls2 (tys2 cI cD) s := hK.sub [0, 1] rfl
  have hq := hd.1
  obtain ⟨hn, hbI, hbO, hbW, hgE⟩ := id hOK
  refine lv_aload_n hx hb dL_law_1179 rfl (lv_at hl 1 rfl) ?_
  refine vp_callSi (W.runV (As := []) (rest := []) S (c_X0_busiestTurn hn hE) (cwV 0 hts gL_law_X0_busiestTurn rfl rfl rfl hdX0_busiestTurn ⟨Nat.le_of_ble_eq_true rfl, Nat.le_of_ble_eq_true rfl⟩) (preV hK2 (va_P.sub hPx [0, 1, 2, 3, 4, 5, 6, 7, 8, 9] rfl) rfl rfl) rfl rfl hl.1 rfl (lv_room (Nat.le_of_ble_eq_true rfl)) dL_law_1180 ⟨Nat.le_trans (Nat.le_succ _) hc.1, Nat.le_trans (Nat.le_add_right _ 6) hc.2⟩) (fun r1 er1 => ?_)
  rw [er1]
  refine lv_aload_n hx hb dL_law_1183 rfl (lv_at hl 2 rfl) ?_
  refine va_calli (va_runV (As := []) (rest := [.int ((busO e n n).1)]) S (c_X1_busiestTurn hn hE' hq') (cwV 0 hts gL_law_X1_busiestTurn rfl rfl rfl hdX1_busiestTurn ⟨Nat.le_of_ble_eq_true rfl, Nat.le_of_ble_eq_true rfl⟩) (preV hK2 hPm rfl rfl) rfl rfl hl.1 rfl (lv_room (Nat.le_of_ble_eq_true rfl)) dL_law_1184 ⟨Nat.le_trans (Nat.le_succ _) hc.1, Nat.le_trans (Nat.le_add_right _ 6) hc.2⟩) hS (fun _ _ h => hA2 _ h) (fun _ h => hA2 _ h) (fun r2 u2 t H locs ht hvm hw2 hB hz hk hS => ?_)
  have hPx := keepA hPx (D12_of hd rfl) (fun x h1 h2 => hdis x h2 h1) hk
  replace hB : va_P D cls2 (mW q' cI cD (nI 0) (nI n) rC hh gi go gw ge gr gf gp gl gc) t.heap := hB
  rw [ht] at hB
  have hPm := hB
  replace hw2 : r2 = (busO e n n).1 := hw2
  rw [hw2]
  refine lv_icmp_eq (tgt := 1355) hx hb dL_law_1187 (by decide) (fun _ => ?_) (fun h => absurd rfl h)
  refine W.widen (k := cells + 1) (n := slots + 6) (Nat.le_succ _) (Nat.le_add_right _ 6) ?_
  exact K n rC inf out w e _ _ _ hOK ⟨_, _, _, _, _, _, _, _, _, _, _, hPx, hI, hO, hW, hE, _, hT, hT2⟩ ⟨_, _, _, _, _, _, _, _, _, _, _, hPm, hI', hO', hW', hE'⟩ hS (lv_sub hl [0, 1, 2, 3, 4, 5] rfl)
set_option maxHeartbeats 8000000 in
set_option maxRecDepth 100000 in
theorem law_12 {p : Program} {l : Launch} {e9 : Env} {s : State} {m : MethodId} {below : List Frame} {meth : Method} {c : Code} {b L : Nat} {xs : Nat → Int32} {D : va_G} {q q' : Nat → Nat} {o o2 : Nat} {cI cD cJ : ClassId} {sa : Nat → Nat} {i cells slots : Nat} {Q : State → Prop} (C : LCx p l s m meth c b L xs D q q' o o2 cI cD cJ sa) (hi : i + 4 < L) (hc : cells + 1 ≤ 3098 ∧ slots + 6 ≤ 119182) (K : LK p l e9 s m below meth c b D q q' o o2 cI cD cJ i cells slots Q)
    {n : Nat} {rC : Int32} {inf out : Nat → Int32} {w : Nat → Nat → Int32} {e : Nat → Nat → UInt64} {H : Heap} {locs : List Loc} {ls : Array Slot} (hOK : OKs n inf out w e) (hX : LX D q o o2 cI cD cJ n rC inf out w e H) (hM : LM D q' cI cD n rC inf out w e H) (hS : va_S (fun x : Nat => s.heap.size ≤ x) s.heap H locs) (hl : lv_has ls 10 (lvL q q' b o o2 i)) : W p l e9 room_1 s m #[Value.ref b] below meth c H locs cells slots Q (F0 m 716 ls []) := by
  obtain ⟨S, ⟨hr, hlocks⟩, hK, ⟨hd, hq', hdis⟩, ⟨hXs, hbl, hL⟩, hA1, hA2, hG, hlt⟩ := C
  obtain ⟨hx, hb, hml, hown, hts⟩ := id S
  obtain ⟨fi, fo, fw, fe, ft, fr, fp, fl, ff, f1, f2, hPx, hI, hO, hW, hE, T, hT, hT2⟩ := hX
  obtain ⟨th, hh, gi, go, gw, ge, gr, gf, gp, gl, gc, hPm, hI', hO', hW', hE'⟩ := hM
  have hK2 : va_K D cls2 (tys2 cI cD) s := hK.sub [0, 1] rfl
  have hq := hd.1
  obtain ⟨hn, hbI, hbO, hbW, hgE⟩ := id hOK
  refine lv_aload_n hx hb dL_law_716 rfl (lv_at hl 1 rfl) ?_
  refine va_calli (va_runV (As := []) (rest := []) S (c_X0_reset hn hW hq) (cwV 0 hts gL_law_X0_reset rfl rfl rfl hdX0_reset ⟨Nat.le_of_ble_eq_true rfl, Nat.le_of_ble_eq_true rfl⟩) (preV hK2 (va_P.sub hPx [0, 1, 2, 3, 4, 5, 6, 7, 8, 9] rfl) rfl rfl) rfl rfl hl.1 rfl (lv_room (Nat.le_of_ble_eq_true rfl)) dL_law_717 ⟨Nat.le_trans (Nat.le_succ _) hc.1, Nat.le_trans (Nat.le_add_right _ 6) hc.2⟩) hS (fun _ _ h => hA1 _ (Or.inl h)) (fun _ h => hA1 _ (Or.inl h)) (fun r1 u1 t H locs ht hvm hw hB hz hk hS => ?_)
  replace hB : va_P D cls2 (cW q cI cD (nI n) (nI 0) fi fo fw u1 ft fr fp fl ff) t.heap := hB
  rw [ht] at hB
  have hPm := keepA hPm (wD_of hq' rfl) (fun x h1 h2 => hdis x h1 (Or.inl h2)) hk
  have hPx : va_P D cls2 (cW q cI cD (nI n) (nI 0) fi fo fw u1 ft fr fp fl ff ++ oW o o2 cJ cD f1 f2) H := glue (w1 := cW q cI cD (nI n) rC fi fo fw fe ft fr fp fl ff) hPx (D12_of hd rfl) [0, 1, 2, 3, 4, 5, 6, 7, 8, 9] [10, 11] rfl rfl (by decide) (qA_in rfl) hk hB
  obtain ⟨hr1, hE⟩ := hw
  rw [hr1]
  refine lv_aload_n hx hb dL_law_720 rfl (lv_at hl 2 rfl) ?_
  refine va_calli (va_runV (As := []) (rest := [.int rC]) S (c_X1_reset hn hW' hq') (cwV 0 hts gL_law_X1_reset rfl rfl rfl hdX1_reset ⟨Nat.le_of_ble_eq_true rfl, Nat.le_of_ble_eq_true rfl⟩) (preV hK2 hPm rfl rfl) rfl rfl hl.1 rfl (lv_room (Nat.le_of_ble_eq_true rfl)) dL_law_721 ⟨Nat.le_trans (Nat.le_succ _) hc.1, Nat.le_trans (Nat.le_add_right _ 6) hc.2⟩) hS (fun _ _ h => hA2 _ h) (fun _ h => hA2 _ h) (fun r2 u2 t H locs ht hvm hw2 hB hz hk hS => ?_)
  have hPx := keepA hPx (D12_of hd rfl) (fun x h1 h2 => hdis x h2 h1) hk
  replace hB : va_P D cls2 (mW q' cI cD (nI 0) (nI n) (nI 0) hh gi go gw u2 gr gf gp gl gc) t.heap := hB
  rw [ht] at hB
  have hPm := hB
  obtain ⟨hr2, hE'⟩ := hw2
  rw [hr2]
  refine lv_icmp_eq (tgt := 1355) hx hb dL_law_724 (by decide) (fun _ => ?_) (fun h => absurd rfl h)
  refine W.widen (k := cells + 1) (n := slots + 6) (Nat.le_succ _) (Nat.le_add_right _ 6) ?_
  exact K n (nI 0) inf out w (lay w) _ _ _ ⟨hn, hbI, hbO, hbW, GE_lay hbW⟩ ⟨_, _, _, _, _, _, _, _, _, _, _, hPx, hI, hO, hW, hE, _, hT, hT2⟩ ⟨_, _, _, _, _, _, _, _, _, _, _, hPm, hI', hO', hW', hE'⟩ hS (lv_sub hl [0, 1, 2, 3, 4, 5] rfl)
set_option maxHeartbeats 8000000 in
set_option maxRecDepth 100000 in
theorem law_16 {p : Program} {l : Launch} {e9 : Env} {s : State} {m : MethodId} {below : List Frame} {meth : Method} {c : Code} {b L : Nat} {xs : Nat → Int32} {D : va_G} {q q' : Nat → Nat} {o o2 : Nat} {cI cD cJ : ClassId} {sa : Nat → Nat} {i cells slots : Nat} {Q : State → Prop} (C : LCx p l s m meth c b L xs D q q' o o2 cI cD cJ sa) (hi : i + 4 < L) (hc : cells + 1 ≤ 3098 ∧ slots + 6 ≤ 119182) (K : LK p l e9 s m below meth c b D q q' o o2 cI cD cJ i cells slots Q)
    {n : Nat} {rC : Int32} {inf out : Nat → Int32} {w : Nat → Nat → Int32} {e : Nat → Nat → UInt64} {H : Heap} {locs : List Loc} {ls : Array Slot} (hOK : OKs n inf out w e) (hX : LX D q o o2 cI cD cJ n rC inf out w e H) (hM : LM D q' cI cD n rC inf out w e H) (hS : va_S (fun x : Nat => s.heap.size ≤ x) s.heap H locs) (hl : lv_has ls 10 (lvL q q' b o o2 i)) : W p l e9 room_1 s m #[Value.ref b] below meth c H locs cells slots Q (F0 m 936 ls []) := by
  obtain ⟨S, ⟨hr, hlocks⟩, hK, ⟨hd, hq', hdis⟩, ⟨hXs, hbl, hL⟩, hA1, hA2, hG, hlt⟩ := C
  obtain ⟨hx, hb, hml, hown, hts⟩ := id S
  obtain ⟨fi, fo, fw, fe, ft, fr, fp, fl, ff, f1, f2, hPx, hI, hO, hW, hE, T, hT, hT2⟩ := hX
  obtain ⟨th, hh, gi, go, gw, ge, gr, gf, gp, gl, gc, hPm, hI', hO', hW', hE'⟩ := hM
  have hK2 : va_K D cls2 (tys2 cI cD) s := hK.sub [0, 1] rfl
  have hq := hd.1
  obtain ⟨hn, hbI, hbO, hbW, hgE⟩ := id hOK
  refine lv_aload_n hx hb dL_law_936 rfl (lv_at hl 1 rfl) ?_
  refine vp_callSd (W.runV (As := []) (rest := []) S (c_X0_misfit hn hI hO hE (ge_okM hn hbI hbO hgE)) (cwV 0 hts gL_law_X0_misfit rfl rfl rfl hdX0_misfit ⟨Nat.le_of_ble_eq_true rfl, Nat.le_of_ble_eq_true rfl⟩) (preV hK2 (va_P.sub hPx [0, 1, 2, 3, 4, 5, 6, 7, 8, 9] rfl) rfl rfl) rfl rfl hl.1 rfl (lv_room (Nat.le_of_ble_eq_true rfl)) dL_law_937 ⟨Nat.le_trans (Nat.le_succ _) hc.1, Nat.le_trans (Nat.le_add_right _ 6) hc.2⟩) (fun r1 er1 => ?_)
  rw [er1]
  refine lv_dstore (lv' := [(6, .double (misK n inf out e n)), (0, .ref b), (1, .ref (q 0)), (2, .ref (q' 0)), (3, .ref o), (4, .ref o2), (5, .int (nI i))]) hx hb dL_law_940 hl (by decide) rfl (fun ls hl => ?_)
  refine lv_aload_n hx hb dL_law_942 rfl (lv_at hl 3 rfl) ?_
  refine va_calld (va_runV (As := []) (rest := []) S (c_X1_misfit hn hI' hO' hE' (ge_okF hn hbI hbO hgE) hq') (cwV 0 hts gL_law_X1_misfit rfl rfl rfl hdX1_misfit ⟨Nat.le_of_ble_eq_true rfl, Nat.le_of_ble_eq_true rfl⟩) (preV hK2 hPm rfl rfl) rfl rfl hl.1 rfl (lv_room (Nat.le_of_ble_eq_true rfl)) dL_law_943 ⟨Nat.le_trans (Nat.le_succ _) hc.1, Nat.le_trans (Nat.le_add_right _ 6) hc.2⟩) hS (fun _ _ h => hA2 _ h) (fun _ h => hA2 _ h) (fun r2 u2 t H locs ht hvm hw2 hB hz hk hS => ?_)
  have hPx := keepA hPx (D12_of hd rfl) (fun x h1 h2 => hdis x h2 h1) hk
  replace hB : va_P D cls2 (mW q' cI cD (nI 0) (nI n) rC hh gi go gw ge gr gf gp gl gc) t.heap := hB
  rw [ht] at hB
  have hPm := hB
  replace hw2 : r2 = misK n inf out e n := hw2
  rw [hw2]
  refine lv_dstore (lv' := [(8, .double (misK n inf out e n)), (6, .double (misK n inf out e n)), (0, .ref b), (1, .ref (q 0)), (2, .ref (q' 0)), (3, .ref o), (4, .ref o2), (5, .int (nI i))]) hx hb dL_law_946 hl (by decide) rfl (fun ls hl => ?_)
  refine lv_dload hx hb dL_law_948 (lv_at hl 1 rfl) ?_
  refine lv_dload hx hb dL_law_950 (lv_at hl 0 rfl) ?_
  refine lv_dcmp hx hb dL_law_952 ?_
  rw [dcmp_same (n64_of (ge_mis hn hbI hbO hgE n (Nat.le_refl _)))]
  refine lv_if_eq (tgt := 974) hx hb dL_law_953 (by decide) (fun h953_0 => ?_) (fun h953_0 => absurd (by decide) h953_0)
  refine lv_goto (tgt := 1355) hx hb dL_law_974 (by decide) ?_
  refine W.widen (k := cells + 1) (n := slots + 6) (Nat.le_succ _) (Nat.le_add_right _ 6) ?_
  exact K n rC inf out w e _ _ _ hOK ⟨_, _, _, _, _, _, _, _, _, _, _, hPx, hI, hO, hW, hE, _, hT, hT2⟩ ⟨_, _, _, _, _, _, _, _, _, _, _, hPm, hI', hO', hW', hE'⟩ hS (lv_sub hl [2, 3, 4, 5, 6, 7] rfl)
set_option maxHeartbeats 8000000 in
set_option maxRecDepth 100000 in
theorem law_21 {p : Program} {l : Launch} {e9 : Env} {s : State} {m : MethodId} {below : List Frame} {meth : Method} {c : Code} {b L : Nat} {xs : Nat → Int32} {D : va_G} {q q' : Nat → Nat} {o o2 : Nat} {cI cD cJ : ClassId} {sa : Nat → Nat} {i cells slots : Nat} {Q : State → Prop} (C : LCx p l s m meth c b L xs D q q' o o2 cI cD cJ sa) (hi : i + 4 < L) (hc : cells + 1 ≤ 3098 ∧ slots + 6 ≤ 119182) (K : LK p l e9 s m below meth c b D q q' o o2 cI cD cJ i cells slots Q)
    {n : Nat} {rC : Int32} {inf out : Nat → Int32} {w : Nat → Nat → Int32} {e : Nat → Nat → UInt64} {H : Heap} {locs : List Loc} {ls : Array Slot} (hOK : OKs n inf out w e) (hX : LX D q o o2 cI cD cJ n rC inf out w e H) (hM : LM D q' cI cD n rC inf out w e H) (hS : va_S (fun x : Nat => s.heap.size ≤ x) s.heap H locs) (hl : lv_has ls 10 (lvL q q' b o o2 i)) : W p l e9 room_1 s m #[Value.ref b] below meth c H locs cells slots Q (F0 m 1260 ls []) := by
  obtain ⟨S, ⟨hr, hlocks⟩, hK, ⟨hd, hq', hdis⟩, ⟨hXs, hbl, hL⟩, hA1, hA2, hG, hlt⟩ := C
  obtain ⟨hx, hb, hml, hown, hts⟩ := id S
  obtain ⟨fi, fo, fw, fe, ft, fr, fp, fl, ff, f1, f2, hPx, hI, hO, hW, hE, T, hT, hT2⟩ := hX
  obtain ⟨th, hh, gi, go, gw, ge, gr, gf, gp, gl, gc, hPm, hI', hO', hW', hE'⟩ := hM
  have hK2 : va_K D cls2 (tys2 cI cD) s := hK.sub [0, 1] rfl
  have hq := hd.1
  obtain ⟨hn, hbI, hbO, hbW, hgE⟩ := id hOK
  refine lv_aload_n hx hb dL_law_1260 rfl (lv_at hl 1 rfl) ?_
  refine va_calli (va_runV (As := []) (rest := []) S (c_X0_roundedMisfit hn hI hO hE hT (rt := (fun i j => fr (6 * i + j))) (fun _ _ _ _ => rfl) (fs := ff) (fun _ _ => rfl) hT2 (fun i hi => ge_okX hn hbI hgE hi) hq) (cwV 0 hts gL_law_X0_roundedMisfit rfl rfl rfl hdX0_roundedMisfit ⟨Nat.le_of_ble_eq_true rfl, Nat.le_of_ble_eq_true rfl⟩) (preV hK2 (va_P.sub hPx [0, 1, 2, 3, 4, 5, 6, 7, 8, 9] rfl) rfl rfl) rfl rfl hl.1 rfl (lv_room (Nat.le_of_ble_eq_true rfl)) dL_law_1261 ⟨Nat.le_trans (Nat.le_succ _) hc.1, Nat.le_trans (Nat.le_add_right _ 6) hc.2⟩) hS (fun _ _ h => hA1 _ (Or.inl h)) (fun _ h => hA1 _ (Or.inl h)) (fun r1 u1 t H locs ht hvm hw hB hz hk hS => ?_)
  replace hB : va_P D cls2 (cW q cI cD (nI n) rC fi fo fw fe ft u1.1 fp fl u1.2) t.heap := hB
  rw [ht] at hB
  have hPm := keepA hPm (wD_of hq' rfl) (fun x h1 h2 => hdis x h1 (Or.inl h2)) hk
  have hPx : va_P D cls2 (cW q cI cD (nI n) rC fi fo fw fe ft u1.1 fp fl u1.2 ++ oW o o2 cJ cD f1 f2) H := glue (w1 := cW q cI cD (nI n) rC fi fo fw fe ft fr fp fl ff) hPx (D12_of hd rfl) [0, 1, 2, 3, 4, 5, 6, 7, 8, 9] [10, 11] rfl rfl (by decide) (qA_in rfl) hk hB
  replace hw : r1 = rdf n (rall (opn w) n inf e n ((fun i j => fr (6 * i + j)), ff)).1 out n := hw
  rw [hw]
  refine lv_aload_n hx hb dL_law_1264 rfl (lv_at hl 2 rfl) ?_
  refine va_calli (va_runV (As := []) (rest := [.int (rdf n (rall (opn w) n inf e n ((fun i j => fr (6 * i + j)), ff)).1 out n)]) S (c_X1_roundedMisfit hn hI' hO' hW' hE' (rt := (fun i j => gr (6 * i + j))) (fun _ _ _ _ => rfl) (fs := gf) (fun _ _ => rfl) (fun i hi => ge_okX hn hbI hgE hi) hq') (cwV 0 hts gL_law_X1_roundedMisfit rfl rfl rfl hdX1_roundedMisfit ⟨Nat.le_of_ble_eq_true rfl, Nat.le_of_ble_eq_true rfl⟩) (preV hK2 hPm rfl rfl) rfl rfl hl.1 rfl (lv_room (Nat.le_of_ble_eq_true rfl)) dL_law_1265 ⟨Nat.le_trans (Nat.le_succ _) hc.1, Nat.le_trans (Nat.le_add_right _ 6) hc.2⟩) hS (fun _ _ h => hA2 _ h) (fun _ h => hA2 _ h) (fun r2 u2 t H locs ht hvm hw2 hB hz hk hS => ?_)
  have hPx := keepA hPx (D12_of hd rfl) (fun x h1 h2 => hdis x h2 h1) hk
  replace hB : va_P D cls2 (mW q' cI cD (nI 0) (nI n) rC hh gi go gw ge u2.1 u2.2 gp gl gc) t.heap := hB
  rw [ht] at hB
  have hPm := hB
  replace hw2 : r2 = mrD n (ralM (opn w) n inf e n ((fun i j => gr (6 * i + j)), gf)).1 out n := hw2
  rw [hw2, ← rmis_eq (op := opn w) hn.2 (fun i hi => ge_FX hn hbI hgE hi) hbI ((fun i j => fr (6 * i + j)), ff) ((fun i j => gr (6 * i + j)), gf)]
  refine lv_icmp_eq (tgt := 1355) hx hb dL_law_1268 (by decide) (fun _ => ?_) (fun h => absurd rfl h)
  refine W.widen (k := cells + 1) (n := slots + 6) (Nat.le_succ _) (Nat.le_add_right _ 6) ?_
  exact K n rC inf out w e _ _ _ hOK ⟨_, _, _, _, _, _, _, _, _, _, _, hPx, hI, hO, hW, hE, _, hT, hT2⟩ ⟨_, _, _, _, _, _, _, _, _, _, _, hPm, hI', hO', hW', hE'⟩ hS (lv_sub hl [0, 1, 2, 3, 4, 5] rfl)
set_option maxHeartbeats 8000000 in
set_option maxRecDepth 100000 in
theorem law_23 {p : Program} {l : Launch} {e9 : Env} {s : State} {m : MethodId} {below : List Frame} {meth : Method} {c : Code} {b L : Nat} {xs : Nat → Int32} {D : va_G} {q q' : Nat → Nat} {o o2 : Nat} {cI cD cJ : ClassId} {sa : Nat → Nat} {i cells slots : Nat} {Q : State → Prop} (C : LCx p l s m meth c b L xs D q q' o o2 cI cD cJ sa) (hi : i + 4 < L) (hc : cells + 1 ≤ 3098 ∧ slots + 6 ≤ 119182) (K : LK p l e9 s m below meth c b D q q' o o2 cI cD cJ i cells slots Q)
    {n : Nat} {rC : Int32} {inf out : Nat → Int32} {w : Nat → Nat → Int32} {e : Nat → Nat → UInt64} {H : Heap} {locs : List Loc} {ls : Array Slot} (hOK : OKs n inf out w e) (hX : LX D q o o2 cI cD cJ n rC inf out w e H) (hM : LM D q' cI cD n rC inf out w e H) (hS : va_S (fun x : Nat => s.heap.size ≤ x) s.heap H locs) (hl : lv_has ls 10 (lvL q q' b o o2 i)) : W p l e9 room_1 s m #[Value.ref b] below meth c H locs cells slots Q (F0 m 1341 ls []) := by
  obtain ⟨S, ⟨hr, hlocks⟩, hK, ⟨hd, hq', hdis⟩, ⟨hXs, hbl, hL⟩, hA1, hA2, hG, hlt⟩ := C
  obtain ⟨hx, hb, hml, hown, hts⟩ := id S
  obtain ⟨fi, fo, fw, fe, ft, fr, fp, fl, ff, f1, f2, hPx, hI, hO, hW, hE, T, hT, hT2⟩ := hX
  obtain ⟨th, hh, gi, go, gw, ge, gr, gf, gp, gl, gc, hPm, hI', hO', hW', hE'⟩ := hM
  have hK2 : va_K D cls2 (tys2 cI cD) s := hK.sub [0, 1] rfl
  have hq := hd.1
  obtain ⟨hn, hbI, hbO, hbW, hgE⟩ := id hOK
  refine lv_aload_n hx hb dL_law_1341 rfl (lv_at hl 1 rfl) ?_
  refine va_calll (va_runV (As := []) (rest := []) S (c_X0_digest hn hI hO hW hE hT (rt := (fun i j => fr (6 * i + j))) (fun _ _ _ _ => rfl) (fs := ff) (fun _ _ => rfl) (pt := (fun i j => fp (6 * i + j))) (fun _ _ _ _ => rfl) hT2 ⟨fun i hi => ge_okX hn hbI hgE hi, ge_okM hn hbI hbO hgE, (ge_dig hn hbI hbO hgE).1, (ge_dig hn hbI hbO hgE).2⟩ hq) (cwV 0 hts gL_law_X0_digest rfl rfl rfl hdX0_digest ⟨Nat.le_of_ble_eq_true rfl, Nat.le_of_ble_eq_true rfl⟩) (preV hK2 (va_P.sub hPx [0, 1, 2, 3, 4, 5, 6, 7, 8, 9] rfl) rfl rfl) rfl rfl hl.1 rfl (lv_room (Nat.le_of_ble_eq_true rfl)) dL_law_1342 ⟨Nat.le_trans (Nat.le_succ _) hc.1, Nat.le_trans (Nat.le_add_right _ 6) hc.2⟩) hS (fun _ _ h => hA1 _ (Or.inl h)) (fun _ h => hA1 _ (Or.inl h)) (fun r1 u1 t H locs ht hvm hw hB hz hk hS => ?_)
  replace hB : va_P D cls2 (cW q cI cD (nI n) rC fi fo fw fe ft u1.1 u1.2.2.1 u1.2.2.2 u1.2.1) t.heap := hB
  rw [ht] at hB
  have hPm := keepA hPm (wD_of hq' rfl) (fun x h1 h2 => hdis x h1 (Or.inl h2)) hk
  have hPx : va_P D cls2 (cW q cI cD (nI n) rC fi fo fw fe ft u1.1 u1.2.2.1 u1.2.2.2 u1.2.1 ++ oW o o2 cJ cD f1 f2) H := glue (w1 := cW q cI cD (nI n) rC fi fo fw fe ft fr fp fl ff) hPx (D12_of hd rfl) [0, 1, 2, 3, 4, 5, 6, 7, 8, 9] [10, 11] rfl rfl (by decide) (qA_in rfl) hk hB
  replace hw : r1 = dgst n (opn w) rC inf out w e (rall (opn w) n inf e n ((fun i j => fr (6 * i + j)), ff)).1 (tbO n (opn w) inf (psb n (opn w) inf out) n ((fun i j => fp (6 * i + j)), out)).1 := hw
  rw [hw]
  refine lv_aload_n hx hb dL_law_1345 rfl (lv_at hl 2 rfl) ?_
  refine va_calll (va_runV (As := []) (rest := [.long (dgst n (opn w) rC inf out w e (rall (opn w) n inf e n ((fun i j => fr (6 * i + j)), ff)).1 (tbO n (opn w) inf (psb n (opn w) inf out) n ((fun i j => fp (6 * i + j)), out)).1)]) S (c_X1_digest hn hI' hO' hW' hE' (rt := (fun i j => gr (6 * i + j))) (fun _ _ _ _ => rfl) (fs := gf) (fun _ _ => rfl) (pt := (fun i j => gp (6 * i + j))) (fun _ _ _ _ => rfl) ⟨fun i hi => ge_okX hn hbI hgE hi, ge_okF hn hbI hbO hgE, (ge_dig hn hbI hbO hgE).1, (ge_dig hn hbI hbO hgE).2⟩ hq') (cwV 0 hts gL_law_X1_digest rfl rfl rfl hdX1_digest ⟨Nat.le_of_ble_eq_true rfl, Nat.le_of_ble_eq_true rfl⟩) (preV hK2 hPm rfl rfl) rfl rfl hl.1 rfl (lv_room (Nat.le_of_ble_eq_true rfl)) dL_law_1346 ⟨Nat.le_trans (Nat.le_succ _) hc.1, Nat.le_trans (Nat.le_add_right _ 6) hc.2⟩) hS (fun _ _ h => hA2 _ h) (fun _ h => hA2 _ h) (fun r2 u2 t H locs ht hvm hw2 hB hz hk hS => ?_)
  have hPx := keepA hPx (D12_of hd rfl) (fun x h1 h2 => hdis x h2 h1) hk
  replace hB : va_P D cls2 (mW q' cI cD (nI 0) (nI n) rC u2.1 gi go gw ge u2.2.1 u2.2.2.1 u2.2.2.2.1 u2.2.2.2.2.1 u2.2.2.2.2.2) t.heap := hB
  rw [ht] at hB
  have hPm := hB
  have hw3 := hw2.trans (dig_eq hn hbI hbO (fun i hi => ge_FX hn hbI hgE hi) ((fun i j => fr (6 * i + j)), ff) ((fun i j => gr (6 * i + j)), gf) (fun i j => fp (6 * i + j)) (fun i j => gp (6 * i + j))).symm
  rw [hw3]
  refine w_lcmp0 hx hb dL_law_1349 ?_
  refine lv_if_eq (tgt := 1355) hx hb dL_law_1350 (by decide) (fun h1350_0 => ?_) (fun h1350_0 => absurd (by decide) h1350_0)
  refine W.widen (k := cells + 1) (n := slots + 6) (Nat.le_succ _) (Nat.le_add_right _ 6) ?_
  exact K n rC inf out w e _ _ _ hOK ⟨_, _, _, _, _, _, _, _, _, _, _, hPx, hI, hO, hW, hE, _, hT, hT2⟩ ⟨_, _, _, _, _, _, _, _, _, _, _, hPm, hI', hO', hW', hE'⟩ hS (lv_sub hl [0, 1, 2, 3, 4, 5] rfl)
