set_option maxHeartbeats 8000000 in
set_option maxRecDepth 100000 in
theorem law_15 {p : Program} {l : Launch} {e9 : Env} {s : State} {m : MethodId} {below : List Frame} {meth : Method} {c : Code} {b L : Nat} {xs : Nat → Int32} {D : va_G} {q q' : Nat → Nat} {o o2 : Nat} {cI cD cJ : ClassId} {sa : Nat → Nat} {i cells slots : Nat} {Q : State → Prop} (C : LCx p l s m meth c b L xs D q q' o o2 cI cD cJ sa) (hi : i + 4 < L) (hc : cells + 1 ≤ 3098 ∧ slots + 6 ≤ 119182) (K : LK p l e9 s m below meth c b D q q' o o2 cI cD cJ i cells slots Q)
    {n : Nat} {rC : Int32} {inf out : Nat → Int32} {w : Nat → Nat → Int32} {e : Nat → Nat → UInt64} {H : Heap} {locs : List Loc} {ls : Array Slot} (hOK : OKs n inf out w e) (hX : LX D q o o2 cI cD cJ n rC inf out w e H) (hM : LM D q' cI cD n rC inf out w e H) (hS : va_S (fun x : Nat => s.heap.size ≤ x) s.heap H locs) (hl : lv_has ls 10 (lvL q q' b o o2 i)) : W p l e9 room_1 s m #[Value.ref b] below meth c H locs cells slots Q (F0 m 831 ls []) := by
  obtain ⟨S, ⟨hr, hlocks⟩, hK, ⟨hd, hq', hdis⟩, ⟨hXs, hbl, hL⟩, hA1, hA2, hG, hlt⟩ := C
  obtain ⟨hx, hb, hml, hown, hts⟩ := id S
  obtain ⟨fi, fo, fw, fe, ft, fr, fp, fl, ff, f1, f2, hPx, hI, hO, hW, hE, T, hT, hT2⟩ := hX
  obtain ⟨th, hh, gi, go, gw, ge, gr, gf, gp, gl, gc, hPm, hI', hO', hW', hE'⟩ := hM
  have hK2 : va_K D cls2 (tys2 cI cD) s := hK.sub [0, 1] rfl
  have hq := hd.1
  obtain ⟨hn, hbI, hbO, hbW, hgE⟩ := id hOK
  obtain ⟨y1, hy1⟩ : ∃ y, y = xs (i + 1) := ⟨_, rfl⟩
  obtain ⟨y2, hy2⟩ : ∃ y, y = xs (i + 2) := ⟨_, rfl⟩
  by_cases h1 : armB n y1 = true
  · obtain ⟨i0, hi0, rfl⟩ := arm_t hn h1
    by_cases hy2z : y2 = 0
    · have hzz := hn
      refine lv_aload_n hx hb dL_law_831 rfl (lv_at hl 1 rfl) ?_
      refine lv_aload_n hx hb dL_law_832 rfl (lv_at hl 0 rfl) ?_
      refine lv_iload hx hb dL_law_833 (lv_at hl 5 rfl) ?_
      refine lv_iconst (v := nI 1) hx hb dL_law_835 (by decide) ?_
      refine w_iadd hx hb dL_law_836 ?_
      refine w_scr hx hb hXs hbl hS (k := i + 1) (v := nI i0) hy1.symm (by omega) hL dL_law_837 ?_
      refine lv_aload_n hx hb dL_law_838 rfl (lv_at hl 0 rfl) ?_
      refine lv_iload hx hb dL_law_839 (lv_at hl 5 rfl) ?_
      refine lv_iconst (v := nI 2) hx hb dL_law_841 (by decide) ?_
      refine w_iadd hx hb dL_law_842 ?_
      refine w_scr hx hb hXs hbl hS (k := i + 2) (v := y2) hy2.symm (by omega) hL dL_law_843 ?_
      refine lv_if_eq (tgt := 851) hx hb dL_law_844 (by decide) (fun h844_0 => ?_) (fun h844_0 => absurd hy2z h844_0)
      refine lv_iconst (v := nI 0) hx hb dL_law_851 (by decide) ?_
      refine lv_aload hx hb dL_law_852 (lv_at hl 4 rfl) ?_
      refine va_calli (vx_runSW (As := [.ref (q 0), .int (nI i0), .int (nI 0), .ref o2]) (rest := []) S (k_L_sum (c_X0_sum hn hE (cb := false) hi0 ⟨ge_okR hn hgE hi0, ge_okC hn hgE hi0⟩) hd) (vx_cwSW 4 hts gL_law_L_sum rfl rfl rfl hdL_sum ⟨Nat.le_of_ble_eq_true rfl, Nat.le_of_ble_eq_true rfl⟩) (preSP hK hPx) rfl rfl hl.1 rfl (lv_room (Nat.le_of_ble_eq_true rfl)) dL_law_854 ⟨Nat.le_trans (Nat.le_succ _) hc.1, Nat.le_trans (Nat.le_add_right _ 6) hc.2⟩) hS (fun _ _ h => hA1 _ h) (fun _ h => hA1 _ h) (fun r1 u1 t H locs ht hvm hw hB hz hk hS => ?_)
      have hPm := keepA hPm (wD_of hq' rfl) hdis hk
      obtain ⟨hw0, hw⟩ := hw
      subst hw0
      replace hB : va_P D cls2 (cW q cI cD (nI n) rC fi fo fw fe ft fr fp fl ff ++ oW o o2 cJ cD f1 (vf_upd f2 0 u1)) t.heap := hB
      rw [ht] at hB
      have hPx := hB
      replace hw : u1 = rowS e n i0 := hw
      rw [hw] at hPx
      refine lv_istore (lv' := [(6, .int (nI 0)), (0, .ref b), (1, .ref (q 0)), (2, .ref (q' 0)), (3, .ref o), (4, .ref o2), (5, .int (nI i))]) hx hb dL_law_857 hl (by decide) rfl (fun ls hl => ?_)
      refine lv_aload_n hx hb dL_law_859 rfl (lv_at hl 3 rfl) ?_
      refine lv_aload_n hx hb dL_law_860 rfl (lv_at hl 1 rfl) ?_
      refine lv_iload hx hb dL_law_861 (lv_at hl 6 rfl) ?_
      refine lv_iconst (v := nI 1) hx hb dL_law_863 (by decide) ?_
      refine w_iadd hx hb dL_law_864 ?_
      refine w_scr hx hb hXs hbl hS (k := i + 1) (v := nI i0) hy1.symm (by omega) hL dL_law_865 ?_
      refine lv_aload_n hx hb dL_law_866 rfl (lv_at hl 1 rfl) ?_
      refine lv_iload hx hb dL_law_867 (lv_at hl 6 rfl) ?_
      refine lv_iconst (v := nI 2) hx hb dL_law_869 (by decide) ?_
      refine w_iadd hx hb dL_law_870 ?_
      refine w_scr hx hb hXs hbl hS (k := i + 2) (v := y2) hy2.symm (by omega) hL dL_law_871 ?_
      refine lv_if_eq (tgt := 879) hx hb dL_law_872 (by decide) (fun h872_1 => ?_) (fun h872_1 => absurd hy2z h872_1)
      refine lv_iconst (v := nI 0) hx hb dL_law_879 (by decide) ?_
      refine va_calld (va_runV (As := [.int (nI i0), .int (nI 0)]) (rest := []) S (c_X1_sum hn hE' (cb := false) hi0 ⟨ge_okR hn hgE hi0, ge_okC hn hgE hi0⟩ hq') (cwV 2 hts gL_law_X1_sum rfl rfl rfl hdX1_sum ⟨Nat.le_of_ble_eq_true rfl, Nat.le_of_ble_eq_true rfl⟩) (preV hK2 hPm rfl rfl) rfl rfl hl.1 rfl (lv_room (Nat.le_of_ble_eq_true rfl)) dL_law_880 ⟨Nat.le_trans (Nat.le_succ _) hc.1, Nat.le_trans (Nat.le_add_right _ 6) hc.2⟩) hS (fun _ _ h => hA2 _ h) (fun _ h => hA2 _ h) (fun r2 u2 t H locs ht hvm hw2 hB hz hk hS => ?_)
      have hPx := keepA hPx (D12_of hd rfl) (fun x h1 h2 => hdis x h2 h1) hk
      replace hB : va_P D cls2 (mW q' cI cD (nI 0) (nI n) rC hh gi go gw ge gr gf gp gl gc) t.heap := hB
      rw [ht] at hB
      have hPm := hB
      replace hw2 : r2 = rowS e n i0 := hw2
      rw [hw2]
      refine lv_dstore (lv' := [(7, .double (rowS e n i0)), (6, .int (nI 0)), (0, .ref b), (1, .ref (q 0)), (2, .ref (q' 0)), (3, .ref o), (4, .ref o2), (5, .int (nI i))]) hx hb dL_law_883 hl (by decide) rfl (fun ls hl => ?_)
      refine lv_aload_n hx hb dL_law_885 rfl (lv_at hl 4 rfl) ?_
      refine vp_callSi (W.runV (As := []) (rest := []) S (c_X1_thrown) (cwV 0 hts gL_law_X1_thrown rfl rfl rfl hdX1_thrown ⟨Nat.le_of_ble_eq_true rfl, Nat.le_of_ble_eq_true rfl⟩) (preV hK2 hPm rfl rfl) rfl rfl hl.1 rfl (lv_room (Nat.le_of_ble_eq_true rfl)) dL_law_886 ⟨Nat.le_trans (Nat.le_succ _) hc.1, Nat.le_trans (Nat.le_add_right _ 6) hc.2⟩) (fun r3 er3 => ?_)
      subst er3
      refine lv_iload hx hb dL_law_889 (lv_at hl 1 rfl) ?_
      refine lv_icmp_eq (tgt := 896) hx hb dL_law_891 (by decide) (fun _ => ?_) (fun h => absurd rfl h)
      refine lv_iload hx hb dL_law_896 (lv_at hl 1 rfl) ?_
      refine lv_if_ne (tgt := 933) hx hb dL_law_898 (by decide) (fun h898_2 => absurd (by decide) h898_2) (fun h898_2 => ?_)
      refine lv_aload hx hb dL_law_901 (lv_at hl 6 rfl) ?_
      refine lv_iconst (v := nI 0) hx hb dL_law_903 (by decide) ?_
      refine w_dald hx hb hK hPx 11 1 rfl rfl (j := 0) (v := rowS e n i0) (vfu0 _ _ _) (by decide) (by decide) dL_law_904 ?_
      refine lv_dload hx hb dL_law_905 (lv_at hl 0 rfl) ?_
      refine lv_dcmp hx hb dL_law_907 ?_
      rw [dcmp_same ((ge_row hn hgE hi0).1.v)]
      refine lv_if_eq (tgt := 933) hx hb dL_law_908 (by decide) (fun h908_3 => ?_) (fun h908_3 => absurd (by decide) h908_3)
      refine lv_goto (tgt := 1355) hx hb dL_law_933 (by decide) ?_
      refine W.widen (k := cells + 1) (n := slots + 6) (Nat.le_succ _) (Nat.le_add_right _ 6) ?_
      exact K n rC inf out w e _ _ _ hOK ⟨_, _, _, _, _, _, _, _, _, _, _, hPx, hI, hO, hW, hE, _, hT, hT2⟩ ⟨_, _, _, _, _, _, _, _, _, _, _, hPm, hI', hO', hW', hE'⟩ hS (lv_sub hl [2, 3, 4, 5, 6, 7] rfl)
    · have hzz := hn
      refine lv_aload_n hx hb dL_law_831 rfl (lv_at hl 1 rfl) ?_
      refine lv_aload_n hx hb dL_law_832 rfl (lv_at hl 0 rfl) ?_
      refine lv_iload hx hb dL_law_833 (lv_at hl 5 rfl) ?_
      refine lv_iconst (v := nI 1) hx hb dL_law_835 (by decide) ?_
      refine w_iadd hx hb dL_law_836 ?_
      refine w_scr hx hb hXs hbl hS (k := i + 1) (v := nI i0) hy1.symm (by omega) hL dL_law_837 ?_
      refine lv_aload_n hx hb dL_law_838 rfl (lv_at hl 0 rfl) ?_
      refine lv_iload hx hb dL_law_839 (lv_at hl 5 rfl) ?_
      refine lv_iconst (v := nI 2) hx hb dL_law_841 (by decide) ?_
      refine w_iadd hx hb dL_law_842 ?_
      refine w_scr hx hb hXs hbl hS (k := i + 2) (v := y2) hy2.symm (by omega) hL dL_law_843 ?_
      refine lv_if_eq (tgt := 851) hx hb dL_law_844 (by decide) (fun h844_0 => absurd h844_0 hy2z) (fun h844_0 => ?_)
      refine lv_iconst (v := nI 1) hx hb dL_law_847 (by decide) ?_
      refine lv_goto (tgt := 852) hx hb dL_law_848 (by decide) ?_
      refine lv_aload hx hb dL_law_852 (lv_at hl 4 rfl) ?_
      refine va_calli (vx_runSW (As := [.ref (q 0), .int (nI i0), .int (nI 1), .ref o2]) (rest := []) S (k_L_sum (c_X0_sum hn hE (cb := true) hi0 ⟨ge_okR hn hgE hi0, ge_okC hn hgE hi0⟩) hd) (vx_cwSW 4 hts gL_law_L_sum rfl rfl rfl hdL_sum ⟨Nat.le_of_ble_eq_true rfl, Nat.le_of_ble_eq_true rfl⟩) (preSP hK hPx) rfl rfl hl.1 rfl (lv_room (Nat.le_of_ble_eq_true rfl)) dL_law_854 ⟨Nat.le_trans (Nat.le_succ _) hc.1, Nat.le_trans (Nat.le_add_right _ 6) hc.2⟩) hS (fun _ _ h => hA1 _ h) (fun _ h => hA1 _ h) (fun r1 u1 t H locs ht hvm hw hB hz hk hS => ?_)
      have hPm := keepA hPm (wD_of hq' rfl) hdis hk
      obtain ⟨hw0, hw⟩ := hw
      subst hw0
      replace hB : va_P D cls2 (cW q cI cD (nI n) rC fi fo fw fe ft fr fp fl ff ++ oW o o2 cJ cD f1 (vf_upd f2 0 u1)) t.heap := hB
      rw [ht] at hB
      have hPx := hB
      replace hw : u1 = colS e n i0 := hw
      rw [hw] at hPx
      refine lv_istore (lv' := [(6, .int (nI 0)), (0, .ref b), (1, .ref (q 0)), (2, .ref (q' 0)), (3, .ref o), (4, .ref o2), (5, .int (nI i))]) hx hb dL_law_857 hl (by decide) rfl (fun ls hl => ?_)
      refine lv_aload_n hx hb dL_law_859 rfl (lv_at hl 3 rfl) ?_
      refine lv_aload_n hx hb dL_law_860 rfl (lv_at hl 1 rfl) ?_
      refine lv_iload hx hb dL_law_861 (lv_at hl 6 rfl) ?_
      refine lv_iconst (v := nI 1) hx hb dL_law_863 (by decide) ?_
      refine w_iadd hx hb dL_law_864 ?_
      refine w_scr hx hb hXs hbl hS (k := i + 1) (v := nI i0) hy1.symm (by omega) hL dL_law_865 ?_
      refine lv_aload_n hx hb dL_law_866 rfl (lv_at hl 1 rfl) ?_
      refine lv_iload hx hb dL_law_867 (lv_at hl 6 rfl) ?_
      refine lv_iconst (v := nI 2) hx hb dL_law_869 (by decide) ?_
      refine w_iadd hx hb dL_law_870 ?_
      refine w_scr hx hb hXs hbl hS (k := i + 2) (v := y2) hy2.symm (by omega) hL dL_law_871 ?_
      refine lv_if_eq (tgt := 879) hx hb dL_law_872 (by decide) (fun h872_1 => absurd h872_1 hy2z) (fun h872_1 => ?_)
      refine lv_iconst (v := nI 1) hx hb dL_law_875 (by decide) ?_
      refine lv_goto (tgt := 880) hx hb dL_law_876 (by decide) ?_
      refine va_calld (va_runV (As := [.int (nI i0), .int (nI 1)]) (rest := []) S (c_X1_sum hn hE' (cb := true) hi0 ⟨ge_okR hn hgE hi0, ge_okC hn hgE hi0⟩ hq') (cwV 2 hts gL_law_X1_sum rfl rfl rfl hdX1_sum ⟨Nat.le_of_ble_eq_true rfl, Nat.le_of_ble_eq_true rfl⟩) (preV hK2 hPm rfl rfl) rfl rfl hl.1 rfl (lv_room (Nat.le_of_ble_eq_true rfl)) dL_law_880 ⟨Nat.le_trans (Nat.le_succ _) hc.1, Nat.le_trans (Nat.le_add_right _ 6) hc.2⟩) hS (fun _ _ h => hA2 _ h) (fun _ h => hA2 _ h) (fun r2 u2 t H locs ht hvm hw2 hB hz hk hS => ?_)
      have hPx := keepA hPx (D12_of hd rfl) (fun x h1 h2 => hdis x h2 h1) hk
      replace hB : va_P D cls2 (mW q' cI cD (nI 0) (nI n) rC hh gi go gw ge gr gf gp gl gc) t.heap := hB
      rw [ht] at hB
      have hPm := hB
      replace hw2 : r2 = colS e n i0 := hw2
      rw [hw2]
      refine lv_dstore (lv' := [(7, .double (colS e n i0)), (6, .int (nI 0)), (0, .ref b), (1, .ref (q 0)), (2, .ref (q' 0)), (3, .ref o), (4, .ref o2), (5, .int (nI i))]) hx hb dL_law_883 hl (by decide) rfl (fun ls hl => ?_)
      refine lv_aload_n hx hb dL_law_885 rfl (lv_at hl 4 rfl) ?_
      refine vp_callSi (W.runV (As := []) (rest := []) S (c_X1_thrown) (cwV 0 hts gL_law_X1_thrown rfl rfl rfl hdX1_thrown ⟨Nat.le_of_ble_eq_true rfl, Nat.le_of_ble_eq_true rfl⟩) (preV hK2 hPm rfl rfl) rfl rfl hl.1 rfl (lv_room (Nat.le_of_ble_eq_true rfl)) dL_law_886 ⟨Nat.le_trans (Nat.le_succ _) hc.1, Nat.le_trans (Nat.le_add_right _ 6) hc.2⟩) (fun r3 er3 => ?_)
      subst er3
      refine lv_iload hx hb dL_law_889 (lv_at hl 1 rfl) ?_
      refine lv_icmp_eq (tgt := 896) hx hb dL_law_891 (by decide) (fun _ => ?_) (fun h => absurd rfl h)
      refine lv_iload hx hb dL_law_896 (lv_at hl 1 rfl) ?_
      refine lv_if_ne (tgt := 933) hx hb dL_law_898 (by decide) (fun h898_2 => absurd (by decide) h898_2) (fun h898_2 => ?_)
      refine lv_aload hx hb dL_law_901 (lv_at hl 6 rfl) ?_
      refine lv_iconst (v := nI 0) hx hb dL_law_903 (by decide) ?_
      refine w_dald hx hb hK hPx 11 1 rfl rfl (j := 0) (v := colS e n i0) (vfu0 _ _ _) (by decide) (by decide) dL_law_904 ?_
      refine lv_dload hx hb dL_law_905 (lv_at hl 0 rfl) ?_
      refine lv_dcmp hx hb dL_law_907 ?_
      rw [dcmp_same ((ge_col hn hgE hi0).v)]
      refine lv_if_eq (tgt := 933) hx hb dL_law_908 (by decide) (fun h908_3 => ?_) (fun h908_3 => absurd (by decide) h908_3)
      refine lv_goto (tgt := 1355) hx hb dL_law_933 (by decide) ?_
      refine W.widen (k := cells + 1) (n := slots + 6) (Nat.le_succ _) (Nat.le_add_right _ 6) ?_
      exact K n rC inf out w e _ _ _ hOK ⟨_, _, _, _, _, _, _, _, _, _, _, hPx, hI, hO, hW, hE, _, hT, hT2⟩ ⟨_, _, _, _, _, _, _, _, _, _, _, hPm, hI', hO', hW', hE'⟩ hS (lv_sub hl [2, 3, 4, 5, 6, 7] rfl)
  · replace h1 := Bool.not_eq_true _ |>.mp h1
    by_cases hy2z : y2 = 0
    · have hzz := hn
      refine lv_aload_n hx hb dL_law_831 rfl (lv_at hl 1 rfl) ?_
      refine lv_aload_n hx hb dL_law_832 rfl (lv_at hl 0 rfl) ?_
      refine lv_iload hx hb dL_law_833 (lv_at hl 5 rfl) ?_
      refine lv_iconst (v := nI 1) hx hb dL_law_835 (by decide) ?_
      refine w_iadd hx hb dL_law_836 ?_
      refine w_scr hx hb hXs hbl hS (k := i + 1) (v := y1) hy1.symm (by omega) hL dL_law_837 ?_
      refine lv_aload_n hx hb dL_law_838 rfl (lv_at hl 0 rfl) ?_
      refine lv_iload hx hb dL_law_839 (lv_at hl 5 rfl) ?_
      refine lv_iconst (v := nI 2) hx hb dL_law_841 (by decide) ?_
      refine w_iadd hx hb dL_law_842 ?_
      refine w_scr hx hb hXs hbl hS (k := i + 2) (v := y2) hy2.symm (by omega) hL dL_law_843 ?_
      refine lv_if_eq (tgt := 851) hx hb dL_law_844 (by decide) (fun h844_0 => ?_) (fun h844_0 => absurd hy2z h844_0)
      refine lv_iconst (v := nI 0) hx hb dL_law_851 (by decide) ?_
      refine lv_aload hx hb dL_law_852 (lv_at hl 4 rfl) ?_
      refine va_calli (vx_runSW (As := [.ref (q 0), .int y1, .int (nI 0), .ref o2]) (rest := []) S (z_L_sum1 ⟨rfl, rfl, Nat.le_of_ble_eq_true rfl, Nat.le_of_ble_eq_true rfl⟩ (x_X0_sum hlt hn h1)) (vx_cwSW 4 hts gL_law_L_sum rfl rfl rfl hdL_sum ⟨Nat.le_of_ble_eq_true rfl, Nat.le_of_ble_eq_true rfl⟩) (preSX hK hPx (xG.keep hG hS)) rfl rfl hl.1 rfl (lv_room (Nat.le_of_ble_eq_true rfl)) dL_law_854 ⟨hc.1, hc.2⟩) hS (fun _ _ h => h.elim) (fun _ h => h.elim) (fun r1 u1 t H locs ht hvm hw hB hz hk hS => ?_)
      have hPm := keepA hPm (wD_of hq' rfl) (fun x _ h => h) hk
      replace hw : r1 = nI 1 := hw
      subst hw
      replace hB : va_P D cls2 (cW q cI cD (nI n) rC fi fo fw fe ft fr fp fl ff ++ oW o o2 cJ cD f1 f2) t.heap := hB
      rw [ht] at hB
      have hPx := hB
      refine lv_istore (lv' := [(6, .int (nI 1)), (0, .ref b), (1, .ref (q 0)), (2, .ref (q' 0)), (3, .ref o), (4, .ref o2), (5, .int (nI i))]) hx hb dL_law_857 hl (by decide) rfl (fun ls hl => ?_)
      refine lv_aload_n hx hb dL_law_859 rfl (lv_at hl 3 rfl) ?_
      refine lv_aload_n hx hb dL_law_860 rfl (lv_at hl 1 rfl) ?_
      refine lv_iload hx hb dL_law_861 (lv_at hl 6 rfl) ?_
      refine lv_iconst (v := nI 1) hx hb dL_law_863 (by decide) ?_
      refine w_iadd hx hb dL_law_864 ?_
      refine w_scr hx hb hXs hbl hS (k := i + 1) (v := y1) hy1.symm (by omega) hL dL_law_865 ?_
      refine lv_aload_n hx hb dL_law_866 rfl (lv_at hl 1 rfl) ?_
      refine lv_iload hx hb dL_law_867 (lv_at hl 6 rfl) ?_
      refine lv_iconst (v := nI 2) hx hb dL_law_869 (by decide) ?_
      refine w_iadd hx hb dL_law_870 ?_
      refine w_scr hx hb hXs hbl hS (k := i + 2) (v := y2) hy2.symm (by omega) hL dL_law_871 ?_
      refine lv_if_eq (tgt := 879) hx hb dL_law_872 (by decide) (fun h872_1 => ?_) (fun h872_1 => absurd hy2z h872_1)
      refine lv_iconst (v := nI 0) hx hb dL_law_879 (by decide) ?_
      refine va_calld (va_runV (As := [.int y1, .int (nI 0)]) (rest := []) S (c_X1_sumx hn h1 hq') (cwV 2 hts gL_law_X1_sum rfl rfl rfl hdX1_sum ⟨Nat.le_of_ble_eq_true rfl, Nat.le_of_ble_eq_true rfl⟩) (preV hK2 hPm rfl rfl) rfl rfl hl.1 rfl (lv_room (Nat.le_of_ble_eq_true rfl)) dL_law_880 ⟨hc.1, hc.2⟩) hS (fun _ _ h => hA2 _ h) (fun _ h => hA2 _ h) (fun r2 u2 t H locs ht hvm hw2 hB hz hk hS => ?_)
      have hPx := keepA hPx (D12_of hd rfl) (fun x h1 h2 => hdis x h2 h1) hk
      replace hB : va_P D cls2 (mW q' cI cD (nI 1) (nI n) rC hh gi go gw ge gr gf gp gl gc) t.heap := hB
      rw [ht] at hB
      have hPm := hB
      refine lv_dstore (lv' := [(7, .double r2), (6, .int (nI 1)), (0, .ref b), (1, .ref (q 0)), (2, .ref (q' 0)), (3, .ref o), (4, .ref o2), (5, .int (nI i))]) hx hb dL_law_883 hl (by decide) rfl (fun ls hl => ?_)
      refine lv_aload_n hx hb dL_law_885 rfl (lv_at hl 4 rfl) ?_
      refine vp_callSi (W.runV (As := []) (rest := []) S (c_X1_thrown) (cwV 0 hts gL_law_X1_thrown rfl rfl rfl hdX1_thrown ⟨Nat.le_of_ble_eq_true rfl, Nat.le_of_ble_eq_true rfl⟩) (preV hK2 hPm rfl rfl) rfl rfl hl.1 rfl (lv_room (Nat.le_of_ble_eq_true rfl)) dL_law_886 ⟨hc.1, hc.2⟩) (fun r3 er3 => ?_)
      subst er3
      refine lv_iload hx hb dL_law_889 (lv_at hl 1 rfl) ?_
      refine lv_icmp_eq (tgt := 896) hx hb dL_law_891 (by decide) (fun _ => ?_) (fun h => absurd rfl h)
      refine lv_iload hx hb dL_law_896 (lv_at hl 1 rfl) ?_
      refine lv_if_ne (tgt := 933) hx hb dL_law_898 (by decide) (fun h898_2 => ?_) (fun h898_2 => absurd h898_2 (by decide))
      refine lv_goto (tgt := 1355) hx hb dL_law_933 (by decide) ?_
      exact K n rC inf out w e _ _ _ hOK ⟨_, _, _, _, _, _, _, _, _, _, _, hPx, hI, hO, hW, hE, _, hT, hT2⟩ ⟨_, _, _, _, _, _, _, _, _, _, _, hPm, hI', hO', hW', hE'⟩ hS (lv_sub hl [2, 3, 4, 5, 6, 7] rfl)
    · have hzz := hn
      refine lv_aload_n hx hb dL_law_831 rfl (lv_at hl 1 rfl) ?_
      refine lv_aload_n hx hb dL_law_832 rfl (lv_at hl 0 rfl) ?_
      refine lv_iload hx hb dL_law_833 (lv_at hl 5 rfl) ?_
      refine lv_iconst (v := nI 1) hx hb dL_law_835 (by decide) ?_
      refine w_iadd hx hb dL_law_836 ?_
      refine w_scr hx hb hXs hbl hS (k := i + 1) (v := y1) hy1.symm (by omega) hL dL_law_837 ?_
      refine lv_aload_n hx hb dL_law_838 rfl (lv_at hl 0 rfl) ?_
      refine lv_iload hx hb dL_law_839 (lv_at hl 5 rfl) ?_
      refine lv_iconst (v := nI 2) hx hb dL_law_841 (by decide) ?_
      refine w_iadd hx hb dL_law_842 ?_
      refine w_scr hx hb hXs hbl hS (k := i + 2) (v := y2) hy2.symm (by omega) hL dL_law_843 ?_
      refine lv_if_eq (tgt := 851) hx hb dL_law_844 (by decide) (fun h844_0 => absurd h844_0 hy2z) (fun h844_0 => ?_)
      refine lv_iconst (v := nI 1) hx hb dL_law_847 (by decide) ?_
      refine lv_goto (tgt := 852) hx hb dL_law_848 (by decide) ?_
      refine lv_aload hx hb dL_law_852 (lv_at hl 4 rfl) ?_
      refine va_calli (vx_runSW (As := [.ref (q 0), .int y1, .int (nI 1), .ref o2]) (rest := []) S (z_L_sum1 ⟨rfl, rfl, Nat.le_of_ble_eq_true rfl, Nat.le_of_ble_eq_true rfl⟩ (x_X0_sum hlt hn h1)) (vx_cwSW 4 hts gL_law_L_sum rfl rfl rfl hdL_sum ⟨Nat.le_of_ble_eq_true rfl, Nat.le_of_ble_eq_true rfl⟩) (preSX hK hPx (xG.keep hG hS)) rfl rfl hl.1 rfl (lv_room (Nat.le_of_ble_eq_true rfl)) dL_law_854 ⟨hc.1, hc.2⟩) hS (fun _ _ h => h.elim) (fun _ h => h.elim) (fun r1 u1 t H locs ht hvm hw hB hz hk hS => ?_)
      have hPm := keepA hPm (wD_of hq' rfl) (fun x _ h => h) hk
      replace hw : r1 = nI 1 := hw
      subst hw
      replace hB : va_P D cls2 (cW q cI cD (nI n) rC fi fo fw fe ft fr fp fl ff ++ oW o o2 cJ cD f1 f2) t.heap := hB
      rw [ht] at hB
      have hPx := hB
      refine lv_istore (lv' := [(6, .int (nI 1)), (0, .ref b), (1, .ref (q 0)), (2, .ref (q' 0)), (3, .ref o), (4, .ref o2), (5, .int (nI i))]) hx hb dL_law_857 hl (by decide) rfl (fun ls hl => ?_)
      refine lv_aload_n hx hb dL_law_859 rfl (lv_at hl 3 rfl) ?_
      refine lv_aload_n hx hb dL_law_860 rfl (lv_at hl 1 rfl) ?_
      refine lv_iload hx hb dL_law_861 (lv_at hl 6 rfl) ?_
      refine lv_iconst (v := nI 1) hx hb dL_law_863 (by decide) ?_
      refine w_iadd hx hb dL_law_864 ?_
      refine w_scr hx hb hXs hbl hS (k := i + 1) (v := y1) hy1.symm (by omega) hL dL_law_865 ?_
      refine lv_aload_n hx hb dL_law_866 rfl (lv_at hl 1 rfl) ?_
      refine lv_iload hx hb dL_law_867 (lv_at hl 6 rfl) ?_
      refine lv_iconst (v := nI 2) hx hb dL_law_869 (by decide) ?_
      refine w_iadd hx hb dL_law_870 ?_
      refine w_scr hx hb hXs hbl hS (k := i + 2) (v := y2) hy2.symm (by omega) hL dL_law_871 ?_
      refine lv_if_eq (tgt := 879) hx hb dL_law_872 (by decide) (fun h872_1 => absurd h872_1 hy2z) (fun h872_1 => ?_)
      refine lv_iconst (v := nI 1) hx hb dL_law_875 (by decide) ?_
      refine lv_goto (tgt := 880) hx hb dL_law_876 (by decide) ?_
      refine va_calld (va_runV (As := [.int y1, .int (nI 1)]) (rest := []) S (c_X1_sumx hn h1 hq') (cwV 2 hts gL_law_X1_sum rfl rfl rfl hdX1_sum ⟨Nat.le_of_ble_eq_true rfl, Nat.le_of_ble_eq_true rfl⟩) (preV hK2 hPm rfl rfl) rfl rfl hl.1 rfl (lv_room (Nat.le_of_ble_eq_true rfl)) dL_law_880 ⟨hc.1, hc.2⟩) hS (fun _ _ h => hA2 _ h) (fun _ h => hA2 _ h) (fun r2 u2 t H locs ht hvm hw2 hB hz hk hS => ?_)
      have hPx := keepA hPx (D12_of hd rfl) (fun x h1 h2 => hdis x h2 h1) hk
      replace hB : va_P D cls2 (mW q' cI cD (nI 1) (nI n) rC hh gi go gw ge gr gf gp gl gc) t.heap := hB
      rw [ht] at hB
      have hPm := hB
      refine lv_dstore (lv' := [(7, .double r2), (6, .int (nI 1)), (0, .ref b), (1, .ref (q 0)), (2, .ref (q' 0)), (3, .ref o), (4, .ref o2), (5, .int (nI i))]) hx hb dL_law_883 hl (by decide) rfl (fun ls hl => ?_)
      refine lv_aload_n hx hb dL_law_885 rfl (lv_at hl 4 rfl) ?_
      refine vp_callSi (W.runV (As := []) (rest := []) S (c_X1_thrown) (cwV 0 hts gL_law_X1_thrown rfl rfl rfl hdX1_thrown ⟨Nat.le_of_ble_eq_true rfl, Nat.le_of_ble_eq_true rfl⟩) (preV hK2 hPm rfl rfl) rfl rfl hl.1 rfl (lv_room (Nat.le_of_ble_eq_true rfl)) dL_law_886 ⟨hc.1, hc.2⟩) (fun r3 er3 => ?_)
      subst er3
      refine lv_iload hx hb dL_law_889 (lv_at hl 1 rfl) ?_
      refine lv_icmp_eq (tgt := 896) hx hb dL_law_891 (by decide) (fun _ => ?_) (fun h => absurd rfl h)
      refine lv_iload hx hb dL_law_896 (lv_at hl 1 rfl) ?_
      refine lv_if_ne (tgt := 933) hx hb dL_law_898 (by decide) (fun h898_2 => ?_) (fun h898_2 => absurd h898_2 (by decide))
      refine lv_goto (tgt := 1355) hx hb dL_law_933 (by decide) ?_
      exact K n rC inf out w e _ _ _ hOK ⟨_, _, _, _, _, _, _, _, _, _, _, hPx, hI, hO, hW, hE, _, hT, hT2⟩ ⟨_, _, _, _, _, _, _, _, _, _, _, hPm, hI', hO', hW', hE'⟩ hS (lv_sub hl [2, 3, 4, 5, 6, 7] rfl)
set_option maxHeartbeats 8000000 in
set_option maxRecDepth 100000 in
theorem law_18 {p : Program} {l : Launch} {e9 : Env} {s : State} {m : MethodId} {below : List Frame} {meth : Method} {c : Code} {b L : Nat} {xs : Nat → Int32} {D : va_G} {q q' : Nat → Nat} {o o2 : Nat} {cI cD cJ : ClassId} {sa : Nat → Nat} {i cells slots : Nat} {Q : State → Prop} (C : LCx p l s m meth c b L xs D q q' o o2 cI cD cJ sa) (hi : i + 4 < L) (hc : cells + 1 ≤ 3098 ∧ slots + 6 ≤ 119182) (K : LK p l e9 s m below meth c b D q q' o o2 cI cD cJ i cells slots Q)
    {n : Nat} {rC : Int32} {inf out : Nat → Int32} {w : Nat → Nat → Int32} {e : Nat → Nat → UInt64} {H : Heap} {locs : List Loc} {ls : Array Slot} (hOK : OKs n inf out w e) (hX : LX D q o o2 cI cD cJ n rC inf out w e H) (hM : LM D q' cI cD n rC inf out w e H) (hS : va_S (fun x : Nat => s.heap.size ≤ x) s.heap H locs) (hl : lv_has ls 10 (lvL q q' b o o2 i)) : W p l e9 room_1 s m #[Value.ref b] below meth c H locs cells slots Q (F0 m 1066 ls []) := by
  obtain ⟨S, ⟨hr, hlocks⟩, hK, ⟨hd, hq', hdis⟩, ⟨hXs, hbl, hL⟩, hA1, hA2, hG, hlt⟩ := C
  obtain ⟨hx, hb, hml, hown, hts⟩ := id S
  obtain ⟨fi, fo, fw, fe, ft, fr, fp, fl, ff, f1, f2, hPx, hI, hO, hW, hE, T, hT, hT2⟩ := hX
  obtain ⟨th, hh, gi, go, gw, ge, gr, gf, gp, gl, gc, hPm, hI', hO', hW', hE'⟩ := hM
  have hK2 : va_K D cls2 (tys2 cI cD) s := hK.sub [0, 1] rfl
  have hq := hd.1
  obtain ⟨hn, hbI, hbO, hbW, hgE⟩ := id hOK
  obtain ⟨y1, hy1⟩ : ∃ y, y = xs (i + 1) := ⟨_, rfl⟩
  obtain ⟨y2, hy2⟩ : ∃ y, y = xs (i + 2) := ⟨_, rfl⟩
  obtain ⟨y3, hy3⟩ : ∃ y, y = xs (i + 3) := ⟨_, rfl⟩
  obtain ⟨y4, hy4⟩ : ∃ y, y = xs (i + 4) := ⟨_, rfl⟩
  by_cases h1 : armB n y1 = true
  · obtain ⟨a0, hA0, rfl⟩ := arm_t hn h1
    by_cases h2 : armB n y2 = true
    · obtain ⟨b0, hB0, rfl⟩ := arm_t hn h2
      by_cases h3 : armB n y3 = true
      · obtain ⟨c0, hC0, rfl⟩ := arm_t hn h3
        by_cases h4 : armB n y4 = true
        · obtain ⟨d0, hD0, rfl⟩ := arm_t hn h4
          by_cases hs : dgt (FP.dmul (e a0 d0) (e b0 c0)) FP.dconst0 = true
          · have hzz := hn
            refine lv_aload_n hx hb dL_law_1066 rfl (lv_at hl 1 rfl) ?_
            refine lv_aload_n hx hb dL_law_1067 rfl (lv_at hl 0 rfl) ?_
            refine lv_iload hx hb dL_law_1068 (lv_at hl 5 rfl) ?_
            refine lv_iconst (v := nI 1) hx hb dL_law_1070 (by decide) ?_
            refine w_iadd hx hb dL_law_1071 ?_
            refine w_scr hx hb hXs hbl hS (k := i + 1) (v := nI a0) hy1.symm (by omega) hL dL_law_1072 ?_
            refine lv_aload_n hx hb dL_law_1073 rfl (lv_at hl 0 rfl) ?_
            refine lv_iload hx hb dL_law_1074 (lv_at hl 5 rfl) ?_
            refine lv_iconst (v := nI 2) hx hb dL_law_1076 (by decide) ?_
            refine w_iadd hx hb dL_law_1077 ?_
            refine w_scr hx hb hXs hbl hS (k := i + 2) (v := nI b0) hy2.symm (by omega) hL dL_law_1078 ?_
            refine lv_aload_n hx hb dL_law_1079 rfl (lv_at hl 0 rfl) ?_
            refine lv_iload hx hb dL_law_1080 (lv_at hl 5 rfl) ?_
            refine lv_iconst (v := nI 3) hx hb dL_law_1082 (by decide) ?_
            refine w_iadd hx hb dL_law_1083 ?_
            refine w_scr hx hb hXs hbl hS (k := i + 3) (v := nI c0) hy3.symm (by omega) hL dL_law_1084 ?_
            refine lv_aload_n hx hb dL_law_1085 rfl (lv_at hl 0 rfl) ?_
            refine lv_iload hx hb dL_law_1086 (lv_at hl 5 rfl) ?_
            refine lv_iconst (v := nI 4) hx hb dL_law_1088 (by decide) ?_
            refine w_iadd hx hb dL_law_1089 ?_
            refine w_scr hx hb hXs hbl hS (k := i + 4) (v := nI d0) hy4.symm (by omega) hL dL_law_1090 ?_
            refine lv_aload hx hb dL_law_1091 (lv_at hl 4 rfl) ?_
            refine va_calli (vx_runSW (As := [.ref (q 0), .int (nI a0), .int (nI b0), .int (nI c0), .int (nI d0), .ref o2]) (rest := []) S (k_L_crossRatio (c_X0_crossRatio hn hE hA0 hB0 hC0 hD0 (ge_mul hgE hA0 hB0 hC0 hD0).v (ge_mul hgE hA0 hB0 hD0 hC0).v hs (ge_quo hgE hA0 hB0 hC0 hD0 hs)) hd) (vx_cwSW 6 hts gL_law_L_crossRatio rfl rfl rfl hdL_crossRatio ⟨Nat.le_of_ble_eq_true rfl, Nat.le_of_ble_eq_true rfl⟩) (preSP hK hPx) rfl rfl hl.1 rfl (lv_room (Nat.le_of_ble_eq_true rfl)) dL_law_1093 ⟨Nat.le_trans (Nat.le_succ _) hc.1, Nat.le_trans (Nat.le_add_right _ 6) hc.2⟩) hS (fun _ _ h => hA1 _ h) (fun _ h => hA1 _ h) (fun r1 u1 t H locs ht hvm hw hB hz hk hS => ?_)
            have hPm := keepA hPm (wD_of hq' rfl) hdis hk
            obtain ⟨hw0, hw⟩ := hw
            subst hw0
            replace hB : va_P D cls2 (cW q cI cD (nI n) rC fi fo fw fe ft fr fp fl ff ++ oW o o2 cJ cD f1 (vf_upd f2 0 u1)) t.heap := hB
            rw [ht] at hB
            have hPx := hB
            replace hw : u1 = FP.ddiv (FP.dmul (e a0 c0) (e b0 d0)) (FP.dmul (e a0 d0) (e b0 c0)) := hw
            rw [hw] at hPx
            refine lv_istore (lv' := [(6, .int (nI 0)), (0, .ref b), (1, .ref (q 0)), (2, .ref (q' 0)), (3, .ref o), (4, .ref o2), (5, .int (nI i))]) hx hb dL_law_1096 hl (by decide) rfl (fun ls hl => ?_)
            refine lv_aload_n hx hb dL_law_1098 rfl (lv_at hl 3 rfl) ?_
            refine lv_aload_n hx hb dL_law_1099 rfl (lv_at hl 1 rfl) ?_
            refine lv_iload hx hb dL_law_1100 (lv_at hl 6 rfl) ?_
            refine lv_iconst (v := nI 1) hx hb dL_law_1102 (by decide) ?_
            refine w_iadd hx hb dL_law_1103 ?_
            refine w_scr hx hb hXs hbl hS (k := i + 1) (v := nI a0) hy1.symm (by omega) hL dL_law_1104 ?_
            refine lv_aload_n hx hb dL_law_1105 rfl (lv_at hl 1 rfl) ?_
            refine lv_iload hx hb dL_law_1106 (lv_at hl 6 rfl) ?_
            refine lv_iconst (v := nI 2) hx hb dL_law_1108 (by decide) ?_
            refine w_iadd hx hb dL_law_1109 ?_
            refine w_scr hx hb hXs hbl hS (k := i + 2) (v := nI b0) hy2.symm (by omega) hL dL_law_1110 ?_
            refine lv_aload_n hx hb dL_law_1111 rfl (lv_at hl 1 rfl) ?_
            refine lv_iload hx hb dL_law_1112 (lv_at hl 6 rfl) ?_
            refine lv_iconst (v := nI 3) hx hb dL_law_1114 (by decide) ?_
            refine w_iadd hx hb dL_law_1115 ?_
            refine w_scr hx hb hXs hbl hS (k := i + 3) (v := nI c0) hy3.symm (by omega) hL dL_law_1116 ?_
            refine lv_aload_n hx hb dL_law_1117 rfl (lv_at hl 1 rfl) ?_
            refine lv_iload hx hb dL_law_1118 (lv_at hl 6 rfl) ?_
            refine lv_iconst (v := nI 4) hx hb dL_law_1120 (by decide) ?_
            refine w_iadd hx hb dL_law_1121 ?_
            refine w_scr hx hb hXs hbl hS (k := i + 4) (v := nI d0) hy4.symm (by omega) hL dL_law_1122 ?_
            refine va_calld (va_runV (As := [.int (nI a0), .int (nI b0), .int (nI c0), .int (nI d0)]) (rest := []) S (c_X1_crossRatio hn hE' hA0 hB0 hC0 hD0 (ge_mul hgE hA0 hB0 hC0 hD0).v (ge_mul hgE hA0 hB0 hD0 hC0).v hs (ge_quo hgE hA0 hB0 hC0 hD0 hs) hq') (cwV 4 hts gL_law_X1_crossRatio rfl rfl rfl hdX1_crossRatio ⟨Nat.le_of_ble_eq_true rfl, Nat.le_of_ble_eq_true rfl⟩) (preV hK2 hPm rfl rfl) rfl rfl hl.1 rfl (lv_room (Nat.le_of_ble_eq_true rfl)) dL_law_1123 ⟨Nat.le_trans (Nat.le_succ _) hc.1, Nat.le_trans (Nat.le_add_right _ 6) hc.2⟩) hS (fun _ _ h => hA2 _ h) (fun _ h => hA2 _ h) (fun r2 u2 t H locs ht hvm hw2 hB hz hk hS => ?_)
            have hPx := keepA hPx (D12_of hd rfl) (fun x h1 h2 => hdis x h2 h1) hk
            replace hB : va_P D cls2 (mW q' cI cD (nI 0) (nI n) rC hh gi go gw ge gr gf gp gl gc) t.heap := hB
            rw [ht] at hB
            have hPm := hB
            replace hw2 : r2 = FP.ddiv (FP.dmul (e a0 c0) (e b0 d0)) (FP.dmul (e a0 d0) (e b0 c0)) := hw2
            rw [hw2]
            refine lv_dstore (lv' := [(7, .double (FP.ddiv (FP.dmul (e a0 c0) (e b0 d0)) (FP.dmul (e a0 d0) (e b0 c0)))), (6, .int (nI 0)), (0, .ref b), (1, .ref (q 0)), (2, .ref (q' 0)), (3, .ref o), (4, .ref o2), (5, .int (nI i))]) hx hb dL_law_1126 hl (by decide) rfl (fun ls hl => ?_)
            refine lv_aload_n hx hb dL_law_1128 rfl (lv_at hl 4 rfl) ?_
            refine vp_callSi (W.runV (As := []) (rest := []) S (c_X1_thrown) (cwV 0 hts gL_law_X1_thrown rfl rfl rfl hdX1_thrown ⟨Nat.le_of_ble_eq_true rfl, Nat.le_of_ble_eq_true rfl⟩) (preV hK2 hPm rfl rfl) rfl rfl hl.1 rfl (lv_room (Nat.le_of_ble_eq_true rfl)) dL_law_1129 ⟨Nat.le_trans (Nat.le_succ _) hc.1, Nat.le_trans (Nat.le_add_right _ 6) hc.2⟩) (fun r3 er3 => ?_)
            subst er3
            refine lv_iload hx hb dL_law_1132 (lv_at hl 1 rfl) ?_
            refine lv_icmp_eq (tgt := 1139) hx hb dL_law_1134 (by decide) (fun _ => ?_) (fun h => absurd rfl h)
            refine lv_iload hx hb dL_law_1139 (lv_at hl 1 rfl) ?_
            refine lv_if_ne (tgt := 1176) hx hb dL_law_1141 (by decide) (fun h1141_0 => absurd (by decide) h1141_0) (fun h1141_0 => ?_)
            refine lv_aload hx hb dL_law_1144 (lv_at hl 6 rfl) ?_
            refine lv_iconst (v := nI 0) hx hb dL_law_1146 (by decide) ?_
            refine w_dald hx hb hK hPx 11 1 rfl rfl (j := 0) (v := FP.ddiv (FP.dmul (e a0 c0) (e b0 d0)) (FP.dmul (e a0 d0) (e b0 c0))) (vfu0 _ _ _) (by decide) (by decide) dL_law_1147 ?_
            refine lv_dload hx hb dL_law_1148 (lv_at hl 0 rfl) ?_
            refine lv_dcmp hx hb dL_law_1150 ?_
            rw [dcmp_same (ge_quo hgE hA0 hB0 hC0 hD0 hs)]
            refine lv_if_eq (tgt := 1176) hx hb dL_law_1151 (by decide) (fun h1151_1 => ?_) (fun h1151_1 => absurd (by decide) h1151_1)
            refine lv_goto (tgt := 1355) hx hb dL_law_1176 (by decide) ?_
            refine W.widen (k := cells + 1) (n := slots + 6) (Nat.le_succ _) (Nat.le_add_right _ 6) ?_
            exact K n rC inf out w e _ _ _ hOK ⟨_, _, _, _, _, _, _, _, _, _, _, hPx, hI, hO, hW, hE, _, hT, hT2⟩ ⟨_, _, _, _, _, _, _, _, _, _, _, hPm, hI', hO', hW', hE'⟩ hS (lv_sub hl [2, 3, 4, 5, 6, 7] rfl)
          · replace hs := Bool.not_eq_true _ |>.mp hs
            refine lv_aload_n hx hb dL_law_1066 rfl (lv_at hl 1 rfl) ?_
            refine lv_aload_n hx hb dL_law_1067 rfl (lv_at hl 0 rfl) ?_
            refine lv_iload hx hb dL_law_1068 (lv_at hl 5 rfl) ?_
            refine lv_iconst (v := nI 1) hx hb dL_law_1070 (by decide) ?_
            refine w_iadd hx hb dL_law_1071 ?_
            refine w_scr hx hb hXs hbl hS (k := i + 1) (v := nI a0) hy1.symm (by omega) hL dL_law_1072 ?_
            refine lv_aload_n hx hb dL_law_1073 rfl (lv_at hl 0 rfl) ?_
            refine lv_iload hx hb dL_law_1074 (lv_at hl 5 rfl) ?_
            refine lv_iconst (v := nI 2) hx hb dL_law_1076 (by decide) ?_
            refine w_iadd hx hb dL_law_1077 ?_
            refine w_scr hx hb hXs hbl hS (k := i + 2) (v := nI b0) hy2.symm (by omega) hL dL_law_1078 ?_
            refine lv_aload_n hx hb dL_law_1079 rfl (lv_at hl 0 rfl) ?_
            refine lv_iload hx hb dL_law_1080 (lv_at hl 5 rfl) ?_
            refine lv_iconst (v := nI 3) hx hb dL_law_1082 (by decide) ?_
            refine w_iadd hx hb dL_law_1083 ?_
            refine w_scr hx hb hXs hbl hS (k := i + 3) (v := nI c0) hy3.symm (by omega) hL dL_law_1084 ?_
            refine lv_aload_n hx hb dL_law_1085 rfl (lv_at hl 0 rfl) ?_
            refine lv_iload hx hb dL_law_1086 (lv_at hl 5 rfl) ?_
            refine lv_iconst (v := nI 4) hx hb dL_law_1088 (by decide) ?_
            refine w_iadd hx hb dL_law_1089 ?_
            refine w_scr hx hb hXs hbl hS (k := i + 4) (v := nI d0) hy4.symm (by omega) hL dL_law_1090 ?_
            refine lv_aload hx hb dL_law_1091 (lv_at hl 4 rfl) ?_
            refine va_calli (vx_runSW (As := [.ref (q 0), .int (nI a0), .int (nI b0), .int (nI c0), .int (nI d0), .ref o2]) (rest := []) S (z_L_crossRatio2 ⟨rfl, rfl, Nat.le_of_ble_eq_true rfl, Nat.le_of_ble_eq_true rfl⟩ (x_X0_crossRatio5 hlt hn hE hA0 hB0 hC0 hD0 (ge_mul hgE hA0 hB0 hC0 hD0).v (ge_mul hgE hA0 hB0 hD0 hC0).v hs)) (vx_cwSW 6 hts gL_law_L_crossRatio rfl rfl rfl hdL_crossRatio ⟨Nat.le_of_ble_eq_true rfl, Nat.le_of_ble_eq_true rfl⟩) (preSX hK hPx (xG.keep hG hS)) rfl rfl hl.1 rfl (lv_room (Nat.le_of_ble_eq_true rfl)) dL_law_1093 ⟨hc.1, hc.2⟩) hS (fun _ _ h => h.elim) (fun _ h => h.elim) (fun r1 u1 t H locs ht hvm hw hB hz hk hS => ?_)
            have hPm := keepA hPm (wD_of hq' rfl) (fun x _ h => h) hk
            replace hw : r1 = nI 2 := hw
            subst hw
            replace hB : va_P D cls2 (cW q cI cD (nI n) rC fi fo fw fe ft fr fp fl ff ++ oW o o2 cJ cD f1 f2) t.heap := hB
            rw [ht] at hB
            have hPx := hB
            refine lv_istore (lv' := [(6, .int (nI 2)), (0, .ref b), (1, .ref (q 0)), (2, .ref (q' 0)), (3, .ref o), (4, .ref o2), (5, .int (nI i))]) hx hb dL_law_1096 hl (by decide) rfl (fun ls hl => ?_)
            refine lv_aload_n hx hb dL_law_1098 rfl (lv_at hl 3 rfl) ?_
            refine lv_aload_n hx hb dL_law_1099 rfl (lv_at hl 1 rfl) ?_
            refine lv_iload hx hb dL_law_1100 (lv_at hl 6 rfl) ?_
            refine lv_iconst (v := nI 1) hx hb dL_law_1102 (by decide) ?_
            refine w_iadd hx hb dL_law_1103 ?_
            refine w_scr hx hb hXs hbl hS (k := i + 1) (v := nI a0) hy1.symm (by omega) hL dL_law_1104 ?_
            refine lv_aload_n hx hb dL_law_1105 rfl (lv_at hl 1 rfl) ?_
            refine lv_iload hx hb dL_law_1106 (lv_at hl 6 rfl) ?_
            refine lv_iconst (v := nI 2) hx hb dL_law_1108 (by decide) ?_
            refine w_iadd hx hb dL_law_1109 ?_
            refine w_scr hx hb hXs hbl hS (k := i + 2) (v := nI b0) hy2.symm (by omega) hL dL_law_1110 ?_
            refine lv_aload_n hx hb dL_law_1111 rfl (lv_at hl 1 rfl) ?_
            refine lv_iload hx hb dL_law_1112 (lv_at hl 6 rfl) ?_
            refine lv_iconst (v := nI 3) hx hb dL_law_1114 (by decide) ?_
            refine w_iadd hx hb dL_law_1115 ?_
            refine w_scr hx hb hXs hbl hS (k := i + 3) (v := nI c0) hy3.symm (by omega) hL dL_law_1116 ?_
            refine lv_aload_n hx hb dL_law_1117 rfl (lv_at hl 1 rfl) ?_
            refine lv_iload hx hb dL_law_1118 (lv_at hl 6 rfl) ?_
            refine lv_iconst (v := nI 4) hx hb dL_law_1120 (by decide) ?_
            refine w_iadd hx hb dL_law_1121 ?_
            refine w_scr hx hb hXs hbl hS (k := i + 4) (v := nI d0) hy4.symm (by omega) hL dL_law_1122 ?_
            refine va_calld (va_runV (As := [.int (nI a0), .int (nI b0), .int (nI c0), .int (nI d0)]) (rest := []) S (c_X1_crossRatiox3 hn hE' hA0 hB0 hC0 hD0 (ge_mul hgE hA0 hB0 hC0 hD0).v (ge_mul hgE hA0 hB0 hD0 hC0).v hs hq') (cwV 4 hts gL_law_X1_crossRatio rfl rfl rfl hdX1_crossRatio ⟨Nat.le_of_ble_eq_true rfl, Nat.le_of_ble_eq_true rfl⟩) (preV hK2 hPm rfl rfl) rfl rfl hl.1 rfl (lv_room (Nat.le_of_ble_eq_true rfl)) dL_law_1123 ⟨hc.1, hc.2⟩) hS (fun _ _ h => hA2 _ h) (fun _ h => hA2 _ h) (fun r2 u2 t H locs ht hvm hw2 hB hz hk hS => ?_)
            have hPx := keepA hPx (D12_of hd rfl) (fun x h1 h2 => hdis x h2 h1) hk
            replace hB : va_P D cls2 (mW q' cI cD (nI 2) (nI n) rC hh gi go gw ge gr gf gp gl gc) t.heap := hB
            rw [ht] at hB
            have hPm := hB
            refine lv_dstore (lv' := [(7, .double r2), (6, .int (nI 2)), (0, .ref b), (1, .ref (q 0)), (2, .ref (q' 0)), (3, .ref o), (4, .ref o2), (5, .int (nI i))]) hx hb dL_law_1126 hl (by decide) rfl (fun ls hl => ?_)
            refine lv_aload_n hx hb dL_law_1128 rfl (lv_at hl 4 rfl) ?_
            refine vp_callSi (W.runV (As := []) (rest := []) S (c_X1_thrown) (cwV 0 hts gL_law_X1_thrown rfl rfl rfl hdX1_thrown ⟨Nat.le_of_ble_eq_true rfl, Nat.le_of_ble_eq_true rfl⟩) (preV hK2 hPm rfl rfl) rfl rfl hl.1 rfl (lv_room (Nat.le_of_ble_eq_true rfl)) dL_law_1129 ⟨hc.1, hc.2⟩) (fun r3 er3 => ?_)
            subst er3
            refine lv_iload hx hb dL_law_1132 (lv_at hl 1 rfl) ?_
            refine lv_icmp_eq (tgt := 1139) hx hb dL_law_1134 (by decide) (fun _ => ?_) (fun h => absurd rfl h)
            refine lv_iload hx hb dL_law_1139 (lv_at hl 1 rfl) ?_
            refine lv_if_ne (tgt := 1176) hx hb dL_law_1141 (by decide) (fun h1141_0 => ?_) (fun h1141_0 => absurd h1141_0 (by decide))
            refine lv_goto (tgt := 1355) hx hb dL_law_1176 (by decide) ?_
            exact K n rC inf out w e _ _ _ hOK ⟨_, _, _, _, _, _, _, _, _, _, _, hPx, hI, hO, hW, hE, _, hT, hT2⟩ ⟨_, _, _, _, _, _, _, _, _, _, _, hPm, hI', hO', hW', hE'⟩ hS (lv_sub hl [2, 3, 4, 5, 6, 7] rfl)
        · replace h4 := Bool.not_eq_true _ |>.mp h4
          refine lv_aload_n hx hb dL_law_1066 rfl (lv_at hl 1 rfl) ?_
          refine lv_aload_n hx hb dL_law_1067 rfl (lv_at hl 0 rfl) ?_
          refine lv_iload hx hb dL_law_1068 (lv_at hl 5 rfl) ?_
          refine lv_iconst (v := nI 1) hx hb dL_law_1070 (by decide) ?_
          refine w_iadd hx hb dL_law_1071 ?_
          refine w_scr hx hb hXs hbl hS (k := i + 1) (v := nI a0) hy1.symm (by omega) hL dL_law_1072 ?_
          refine lv_aload_n hx hb dL_law_1073 rfl (lv_at hl 0 rfl) ?_
          refine lv_iload hx hb dL_law_1074 (lv_at hl 5 rfl) ?_
          refine lv_iconst (v := nI 2) hx hb dL_law_1076 (by decide) ?_
          refine w_iadd hx hb dL_law_1077 ?_
          refine w_scr hx hb hXs hbl hS (k := i + 2) (v := nI b0) hy2.symm (by omega) hL dL_law_1078 ?_
          refine lv_aload_n hx hb dL_law_1079 rfl (lv_at hl 0 rfl) ?_
          refine lv_iload hx hb dL_law_1080 (lv_at hl 5 rfl) ?_
          refine lv_iconst (v := nI 3) hx hb dL_law_1082 (by decide) ?_
          refine w_iadd hx hb dL_law_1083 ?_
          refine w_scr hx hb hXs hbl hS (k := i + 3) (v := nI c0) hy3.symm (by omega) hL dL_law_1084 ?_
          refine lv_aload_n hx hb dL_law_1085 rfl (lv_at hl 0 rfl) ?_
          refine lv_iload hx hb dL_law_1086 (lv_at hl 5 rfl) ?_
          refine lv_iconst (v := nI 4) hx hb dL_law_1088 (by decide) ?_
          refine w_iadd hx hb dL_law_1089 ?_
          refine w_scr hx hb hXs hbl hS (k := i + 4) (v := y4) hy4.symm (by omega) hL dL_law_1090 ?_
          refine lv_aload hx hb dL_law_1091 (lv_at hl 4 rfl) ?_
          refine va_calli (vx_runSW (As := [.ref (q 0), .int (nI a0), .int (nI b0), .int (nI c0), .int y4, .ref o2]) (rest := []) S (z_L_crossRatio1 ⟨rfl, rfl, Nat.le_of_ble_eq_true rfl, Nat.le_of_ble_eq_true rfl⟩ (x_X0_crossRatio4 hlt hn hA0 hB0 hC0 h4)) (vx_cwSW 6 hts gL_law_L_crossRatio rfl rfl rfl hdL_crossRatio ⟨Nat.le_of_ble_eq_true rfl, Nat.le_of_ble_eq_true rfl⟩) (preSX hK hPx (xG.keep hG hS)) rfl rfl hl.1 rfl (lv_room (Nat.le_of_ble_eq_true rfl)) dL_law_1093 ⟨hc.1, hc.2⟩) hS (fun _ _ h => h.elim) (fun _ h => h.elim) (fun r1 u1 t H locs ht hvm hw hB hz hk hS => ?_)
          have hPm := keepA hPm (wD_of hq' rfl) (fun x _ h => h) hk
          replace hw : r1 = nI 1 := hw
          subst hw
          replace hB : va_P D cls2 (cW q cI cD (nI n) rC fi fo fw fe ft fr fp fl ff ++ oW o o2 cJ cD f1 f2) t.heap := hB
          rw [ht] at hB
          have hPx := hB
          refine lv_istore (lv' := [(6, .int (nI 1)), (0, .ref b), (1, .ref (q 0)), (2, .ref (q' 0)), (3, .ref o), (4, .ref o2), (5, .int (nI i))]) hx hb dL_law_1096 hl (by decide) rfl (fun ls hl => ?_)
          refine lv_aload_n hx hb dL_law_1098 rfl (lv_at hl 3 rfl) ?_
          refine lv_aload_n hx hb dL_law_1099 rfl (lv_at hl 1 rfl) ?_
          refine lv_iload hx hb dL_law_1100 (lv_at hl 6 rfl) ?_
          refine lv_iconst (v := nI 1) hx hb dL_law_1102 (by decide) ?_
          refine w_iadd hx hb dL_law_1103 ?_
          refine w_scr hx hb hXs hbl hS (k := i + 1) (v := nI a0) hy1.symm (by omega) hL dL_law_1104 ?_
          refine lv_aload_n hx hb dL_law_1105 rfl (lv_at hl 1 rfl) ?_
          refine lv_iload hx hb dL_law_1106 (lv_at hl 6 rfl) ?_
          refine lv_iconst (v := nI 2) hx hb dL_law_1108 (by decide) ?_
          refine w_iadd hx hb dL_law_1109 ?_
          refine w_scr hx hb hXs hbl hS (k := i + 2) (v := nI b0) hy2.symm (by omega) hL dL_law_1110 ?_
          refine lv_aload_n hx hb dL_law_1111 rfl (lv_at hl 1 rfl) ?_
          refine lv_iload hx hb dL_law_1112 (lv_at hl 6 rfl) ?_
          refine lv_iconst (v := nI 3) hx hb dL_law_1114 (by decide) ?_
          refine w_iadd hx hb dL_law_1115 ?_
          refine w_scr hx hb hXs hbl hS (k := i + 3) (v := nI c0) hy3.symm (by omega) hL dL_law_1116 ?_
          refine lv_aload_n hx hb dL_law_1117 rfl (lv_at hl 1 rfl) ?_
          refine lv_iload hx hb dL_law_1118 (lv_at hl 6 rfl) ?_
          refine lv_iconst (v := nI 4) hx hb dL_law_1120 (by decide) ?_
          refine w_iadd hx hb dL_law_1121 ?_
          refine w_scr hx hb hXs hbl hS (k := i + 4) (v := y4) hy4.symm (by omega) hL dL_law_1122 ?_
          refine va_calld (va_runV (As := [.int (nI a0), .int (nI b0), .int (nI c0), .int y4]) (rest := []) S (c_X1_crossRatiox2 hn (by rw [h1, h2]; rfl) (by rw [h4, Bool.and_false]) hq') (cwV 4 hts gL_law_X1_crossRatio rfl rfl rfl hdX1_crossRatio ⟨Nat.le_of_ble_eq_true rfl, Nat.le_of_ble_eq_true rfl⟩) (preV hK2 hPm rfl rfl) rfl rfl hl.1 rfl (lv_room (Nat.le_of_ble_eq_true rfl)) dL_law_1123 ⟨hc.1, hc.2⟩) hS (fun _ _ h => hA2 _ h) (fun _ h => hA2 _ h) (fun r2 u2 t H locs ht hvm hw2 hB hz hk hS => ?_)
          have hPx := keepA hPx (D12_of hd rfl) (fun x h1 h2 => hdis x h2 h1) hk
          replace hB : va_P D cls2 (mW q' cI cD (nI 1) (nI n) rC hh gi go gw ge gr gf gp gl gc) t.heap := hB
          rw [ht] at hB
          have hPm := hB
          refine lv_dstore (lv' := [(7, .double r2), (6, .int (nI 1)), (0, .ref b), (1, .ref (q 0)), (2, .ref (q' 0)), (3, .ref o), (4, .ref o2), (5, .int (nI i))]) hx hb dL_law_1126 hl (by decide) rfl (fun ls hl => ?_)
          refine lv_aload_n hx hb dL_law_1128 rfl (lv_at hl 4 rfl) ?_
          refine vp_callSi (W.runV (As := []) (rest := []) S (c_X1_thrown) (cwV 0 hts gL_law_X1_thrown rfl rfl rfl hdX1_thrown ⟨Nat.le_of_ble_eq_true rfl, Nat.le_of_ble_eq_true rfl⟩) (preV hK2 hPm rfl rfl) rfl rfl hl.1 rfl (lv_room (Nat.le_of_ble_eq_true rfl)) dL_law_1129 ⟨hc.1, hc.2⟩) (fun r3 er3 => ?_)
          subst er3
          refine lv_iload hx hb dL_law_1132 (lv_at hl 1 rfl) ?_
          refine lv_icmp_eq (tgt := 1139) hx hb dL_law_1134 (by decide) (fun _ => ?_) (fun h => absurd rfl h)
          refine lv_iload hx hb dL_law_1139 (lv_at hl 1 rfl) ?_
          refine lv_if_ne (tgt := 1176) hx hb dL_law_1141 (by decide) (fun h1141_0 => ?_) (fun h1141_0 => absurd h1141_0 (by decide))
          refine lv_goto (tgt := 1355) hx hb dL_law_1176 (by decide) ?_
          exact K n rC inf out w e _ _ _ hOK ⟨_, _, _, _, _, _, _, _, _, _, _, hPx, hI, hO, hW, hE, _, hT, hT2⟩ ⟨_, _, _, _, _, _, _, _, _, _, _, hPm, hI', hO', hW', hE'⟩ hS (lv_sub hl [2, 3, 4, 5, 6, 7] rfl)
      · replace h3 := Bool.not_eq_true _ |>.mp h3
        refine lv_aload_n hx hb dL_law_1066 rfl (lv_at hl 1 rfl) ?_
        refine lv_aload_n hx hb dL_law_1067 rfl (lv_at hl 0 rfl) ?_
        refine lv_iload hx hb dL_law_1068 (lv_at hl 5 rfl) ?_
        refine lv_iconst (v := nI 1) hx hb dL_law_1070 (by decide) ?_
        refine w_iadd hx hb dL_law_1071 ?_
        refine w_scr hx hb hXs hbl hS (k := i + 1) (v := nI a0) hy1.symm (by omega) hL dL_law_1072 ?_
        refine lv_aload_n hx hb dL_law_1073 rfl (lv_at hl 0 rfl) ?_
        refine lv_iload hx hb dL_law_1074 (lv_at hl 5 rfl) ?_
        refine lv_iconst (v := nI 2) hx hb dL_law_1076 (by decide) ?_
        refine w_iadd hx hb dL_law_1077 ?_
        refine w_scr hx hb hXs hbl hS (k := i + 2) (v := nI b0) hy2.symm (by omega) hL dL_law_1078 ?_
        refine lv_aload_n hx hb dL_law_1079 rfl (lv_at hl 0 rfl) ?_
        refine lv_iload hx hb dL_law_1080 (lv_at hl 5 rfl) ?_
        refine lv_iconst (v := nI 3) hx hb dL_law_1082 (by decide) ?_
        refine w_iadd hx hb dL_law_1083 ?_
        refine w_scr hx hb hXs hbl hS (k := i + 3) (v := y3) hy3.symm (by omega) hL dL_law_1084 ?_
        refine lv_aload_n hx hb dL_law_1085 rfl (lv_at hl 0 rfl) ?_
        refine lv_iload hx hb dL_law_1086 (lv_at hl 5 rfl) ?_
        refine lv_iconst (v := nI 4) hx hb dL_law_1088 (by decide) ?_
        refine w_iadd hx hb dL_law_1089 ?_
        refine w_scr hx hb hXs hbl hS (k := i + 4) (v := y4) hy4.symm (by omega) hL dL_law_1090 ?_
        refine lv_aload hx hb dL_law_1091 (lv_at hl 4 rfl) ?_
        refine va_calli (vx_runSW (As := [.ref (q 0), .int (nI a0), .int (nI b0), .int y3, .int y4, .ref o2]) (rest := []) S (z_L_crossRatio1 ⟨rfl, rfl, Nat.le_of_ble_eq_true rfl, Nat.le_of_ble_eq_true rfl⟩ (x_X0_crossRatio3 hlt hn hA0 hB0 h3)) (vx_cwSW 6 hts gL_law_L_crossRatio rfl rfl rfl hdL_crossRatio ⟨Nat.le_of_ble_eq_true rfl, Nat.le_of_ble_eq_true rfl⟩) (preSX hK hPx (xG.keep hG hS)) rfl rfl hl.1 rfl (lv_room (Nat.le_of_ble_eq_true rfl)) dL_law_1093 ⟨hc.1, hc.2⟩) hS (fun _ _ h => h.elim) (fun _ h => h.elim) (fun r1 u1 t H locs ht hvm hw hB hz hk hS => ?_)
        have hPm := keepA hPm (wD_of hq' rfl) (fun x _ h => h) hk
        replace hw : r1 = nI 1 := hw
        subst hw
        replace hB : va_P D cls2 (cW q cI cD (nI n) rC fi fo fw fe ft fr fp fl ff ++ oW o o2 cJ cD f1 f2) t.heap := hB
        rw [ht] at hB
        have hPx := hB
        refine lv_istore (lv' := [(6, .int (nI 1)), (0, .ref b), (1, .ref (q 0)), (2, .ref (q' 0)), (3, .ref o), (4, .ref o2), (5, .int (nI i))]) hx hb dL_law_1096 hl (by decide) rfl (fun ls hl => ?_)
        refine lv_aload_n hx hb dL_law_1098 rfl (lv_at hl 3 rfl) ?_
        refine lv_aload_n hx hb dL_law_1099 rfl (lv_at hl 1 rfl) ?_
        refine lv_iload hx hb dL_law_1100 (lv_at hl 6 rfl) ?_
        refine lv_iconst (v := nI 1) hx hb dL_law_1102 (by decide) ?_
        refine w_iadd hx hb dL_law_1103 ?_
        refine w_scr hx hb hXs hbl hS (k := i + 1) (v := nI a0) hy1.symm (by omega) hL dL_law_1104 ?_
        refine lv_aload_n hx hb dL_law_1105 rfl (lv_at hl 1 rfl) ?_
        refine lv_iload hx hb dL_law_1106 (lv_at hl 6 rfl) ?_
        refine lv_iconst (v := nI 2) hx hb dL_law_1108 (by decide) ?_
        refine w_iadd hx hb dL_law_1109 ?_
        refine w_scr hx hb hXs hbl hS (k := i + 2) (v := nI b0) hy2.symm (by omega) hL dL_law_1110 ?_
        refine lv_aload_n hx hb dL_law_1111 rfl (lv_at hl 1 rfl) ?_
        refine lv_iload hx hb dL_law_1112 (lv_at hl 6 rfl) ?_
        refine lv_iconst (v := nI 3) hx hb dL_law_1114 (by decide) ?_
        refine w_iadd hx hb dL_law_1115 ?_
        refine w_scr hx hb hXs hbl hS (k := i + 3) (v := y3) hy3.symm (by omega) hL dL_law_1116 ?_
        refine lv_aload_n hx hb dL_law_1117 rfl (lv_at hl 1 rfl) ?_
        refine lv_iload hx hb dL_law_1118 (lv_at hl 6 rfl) ?_
        refine lv_iconst (v := nI 4) hx hb dL_law_1120 (by decide) ?_
        refine w_iadd hx hb dL_law_1121 ?_
        refine w_scr hx hb hXs hbl hS (k := i + 4) (v := y4) hy4.symm (by omega) hL dL_law_1122 ?_
        refine va_calld (va_runV (As := [.int (nI a0), .int (nI b0), .int y3, .int y4]) (rest := []) S (c_X1_crossRatiox2 hn (by rw [h1, h2]; rfl) (by rw [h3, Bool.false_and]) hq') (cwV 4 hts gL_law_X1_crossRatio rfl rfl rfl hdX1_crossRatio ⟨Nat.le_of_ble_eq_true rfl, Nat.le_of_ble_eq_true rfl⟩) (preV hK2 hPm rfl rfl) rfl rfl hl.1 rfl (lv_room (Nat.le_of_ble_eq_true rfl)) dL_law_1123 ⟨hc.1, hc.2⟩) hS (fun _ _ h => hA2 _ h) (fun _ h => hA2 _ h) (fun r2 u2 t H locs ht hvm hw2 hB hz hk hS => ?_)
        have hPx := keepA hPx (D12_of hd rfl) (fun x h1 h2 => hdis x h2 h1) hk
        replace hB : va_P D cls2 (mW q' cI cD (nI 1) (nI n) rC hh gi go gw ge gr gf gp gl gc) t.heap := hB
        rw [ht] at hB
        have hPm := hB
        refine lv_dstore (lv' := [(7, .double r2), (6, .int (nI 1)), (0, .ref b), (1, .ref (q 0)), (2, .ref (q' 0)), (3, .ref o), (4, .ref o2), (5, .int (nI i))]) hx hb dL_law_1126 hl (by decide) rfl (fun ls hl => ?_)
        refine lv_aload_n hx hb dL_law_1128 rfl (lv_at hl 4 rfl) ?_
        refine vp_callSi (W.runV (As := []) (rest := []) S (c_X1_thrown) (cwV 0 hts gL_law_X1_thrown rfl rfl rfl hdX1_thrown ⟨Nat.le_of_ble_eq_true rfl, Nat.le_of_ble_eq_true rfl⟩) (preV hK2 hPm rfl rfl) rfl rfl hl.1 rfl (lv_room (Nat.le_of_ble_eq_true rfl)) dL_law_1129 ⟨hc.1, hc.2⟩) (fun r3 er3 => ?_)
        subst er3
        refine lv_iload hx hb dL_law_1132 (lv_at hl 1 rfl) ?_
        refine lv_icmp_eq (tgt := 1139) hx hb dL_law_1134 (by decide) (fun _ => ?_) (fun h => absurd rfl h)
        refine lv_iload hx hb dL_law_1139 (lv_at hl 1 rfl) ?_
        refine lv_if_ne (tgt := 1176) hx hb dL_law_1141 (by decide) (fun h1141_0 => ?_) (fun h1141_0 => absurd h1141_0 (by decide))
        refine lv_goto (tgt := 1355) hx hb dL_law_1176 (by decide) ?_
        exact K n rC inf out w e _ _ _ hOK ⟨_, _, _, _, _, _, _, _, _, _, _, hPx, hI, hO, hW, hE, _, hT, hT2⟩ ⟨_, _, _, _, _, _, _, _, _, _, _, hPm, hI', hO', hW', hE'⟩ hS (lv_sub hl [2, 3, 4, 5, 6, 7] rfl)
    · replace h2 := Bool.not_eq_true _ |>.mp h2
      refine lv_aload_n hx hb dL_law_1066 rfl (lv_at hl 1 rfl) ?_
      refine lv_aload_n hx hb dL_law_1067 rfl (lv_at hl 0 rfl) ?_
      refine lv_iload hx hb dL_law_1068 (lv_at hl 5 rfl) ?_
      refine lv_iconst (v := nI 1) hx hb dL_law_1070 (by decide) ?_
      refine w_iadd hx hb dL_law_1071 ?_
      refine w_scr hx hb hXs hbl hS (k := i + 1) (v := nI a0) hy1.symm (by omega) hL dL_law_1072 ?_
      refine lv_aload_n hx hb dL_law_1073 rfl (lv_at hl 0 rfl) ?_
      refine lv_iload hx hb dL_law_1074 (lv_at hl 5 rfl) ?_
      refine lv_iconst (v := nI 2) hx hb dL_law_1076 (by decide) ?_
      refine w_iadd hx hb dL_law_1077 ?_
      refine w_scr hx hb hXs hbl hS (k := i + 2) (v := y2) hy2.symm (by omega) hL dL_law_1078 ?_
      refine lv_aload_n hx hb dL_law_1079 rfl (lv_at hl 0 rfl) ?_
      refine lv_iload hx hb dL_law_1080 (lv_at hl 5 rfl) ?_
      refine lv_iconst (v := nI 3) hx hb dL_law_1082 (by decide) ?_
      refine w_iadd hx hb dL_law_1083 ?_
      refine w_scr hx hb hXs hbl hS (k := i + 3) (v := y3) hy3.symm (by omega) hL dL_law_1084 ?_
      refine lv_aload_n hx hb dL_law_1085 rfl (lv_at hl 0 rfl) ?_
      refine lv_iload hx hb dL_law_1086 (lv_at hl 5 rfl) ?_
      refine lv_iconst (v := nI 4) hx hb dL_law_1088 (by decide) ?_
      refine w_iadd hx hb dL_law_1089 ?_
      refine w_scr hx hb hXs hbl hS (k := i + 4) (v := y4) hy4.symm (by omega) hL dL_law_1090 ?_
      refine lv_aload hx hb dL_law_1091 (lv_at hl 4 rfl) ?_
      refine va_calli (vx_runSW (As := [.ref (q 0), .int (nI a0), .int y2, .int y3, .int y4, .ref o2]) (rest := []) S (z_L_crossRatio1 ⟨rfl, rfl, Nat.le_of_ble_eq_true rfl, Nat.le_of_ble_eq_true rfl⟩ (x_X0_crossRatio2 hlt hn hA0 h2)) (vx_cwSW 6 hts gL_law_L_crossRatio rfl rfl rfl hdL_crossRatio ⟨Nat.le_of_ble_eq_true rfl, Nat.le_of_ble_eq_true rfl⟩) (preSX hK hPx (xG.keep hG hS)) rfl rfl hl.1 rfl (lv_room (Nat.le_of_ble_eq_true rfl)) dL_law_1093 ⟨hc.1, hc.2⟩) hS (fun _ _ h => h.elim) (fun _ h => h.elim) (fun r1 u1 t H locs ht hvm hw hB hz hk hS => ?_)
      have hPm := keepA hPm (wD_of hq' rfl) (fun x _ h => h) hk
      replace hw : r1 = nI 1 := hw
      subst hw
      replace hB : va_P D cls2 (cW q cI cD (nI n) rC fi fo fw fe ft fr fp fl ff ++ oW o o2 cJ cD f1 f2) t.heap := hB
      rw [ht] at hB
      have hPx := hB
      refine lv_istore (lv' := [(6, .int (nI 1)), (0, .ref b), (1, .ref (q 0)), (2, .ref (q' 0)), (3, .ref o), (4, .ref o2), (5, .int (nI i))]) hx hb dL_law_1096 hl (by decide) rfl (fun ls hl => ?_)
      refine lv_aload_n hx hb dL_law_1098 rfl (lv_at hl 3 rfl) ?_
      refine lv_aload_n hx hb dL_law_1099 rfl (lv_at hl 1 rfl) ?_
      refine lv_iload hx hb dL_law_1100 (lv_at hl 6 rfl) ?_
      refine lv_iconst (v := nI 1) hx hb dL_law_1102 (by decide) ?_
      refine w_iadd hx hb dL_law_1103 ?_
      refine w_scr hx hb hXs hbl hS (k := i + 1) (v := nI a0) hy1.symm (by omega) hL dL_law_1104 ?_
      refine lv_aload_n hx hb dL_law_1105 rfl (lv_at hl 1 rfl) ?_
      refine lv_iload hx hb dL_law_1106 (lv_at hl 6 rfl) ?_
      refine lv_iconst (v := nI 2) hx hb dL_law_1108 (by decide) ?_
      refine w_iadd hx hb dL_law_1109 ?_
      refine w_scr hx hb hXs hbl hS (k := i + 2) (v := y2) hy2.symm (by omega) hL dL_law_1110 ?_
      refine lv_aload_n hx hb dL_law_1111 rfl (lv_at hl 1 rfl) ?_
      refine lv_iload hx hb dL_law_1112 (lv_at hl 6 rfl) ?_
      refine lv_iconst (v := nI 3) hx hb dL_law_1114 (by decide) ?_
      refine w_iadd hx hb dL_law_1115 ?_
      refine w_scr hx hb hXs hbl hS (k := i + 3) (v := y3) hy3.symm (by omega) hL dL_law_1116 ?_
      refine lv_aload_n hx hb dL_law_1117 rfl (lv_at hl 1 rfl) ?_
      refine lv_iload hx hb dL_law_1118 (lv_at hl 6 rfl) ?_
      refine lv_iconst (v := nI 4) hx hb dL_law_1120 (by decide) ?_
      refine w_iadd hx hb dL_law_1121 ?_
      refine w_scr hx hb hXs hbl hS (k := i + 4) (v := y4) hy4.symm (by omega) hL dL_law_1122 ?_
      refine va_calld (va_runV (As := [.int (nI a0), .int y2, .int y3, .int y4]) (rest := []) S (c_X1_crossRatiox1 hn (by rw [h2, Bool.and_false]) hq') (cwV 4 hts gL_law_X1_crossRatio rfl rfl rfl hdX1_crossRatio ⟨Nat.le_of_ble_eq_true rfl, Nat.le_of_ble_eq_true rfl⟩) (preV hK2 hPm rfl rfl) rfl rfl hl.1 rfl (lv_room (Nat.le_of_ble_eq_true rfl)) dL_law_1123 ⟨hc.1, hc.2⟩) hS (fun _ _ h => hA2 _ h) (fun _ h => hA2 _ h) (fun r2 u2 t H locs ht hvm hw2 hB hz hk hS => ?_)
      have hPx := keepA hPx (D12_of hd rfl) (fun x h1 h2 => hdis x h2 h1) hk
      replace hB : va_P D cls2 (mW q' cI cD (nI 1) (nI n) rC hh gi go gw ge gr gf gp gl gc) t.heap := hB
      rw [ht] at hB
      have hPm := hB
      refine lv_dstore (lv' := [(7, .double r2), (6, .int (nI 1)), (0, .ref b), (1, .ref (q 0)), (2, .ref (q' 0)), (3, .ref o), (4, .ref o2), (5, .int (nI i))]) hx hb dL_law_1126 hl (by decide) rfl (fun ls hl => ?_)
      refine lv_aload_n hx hb dL_law_1128 rfl (lv_at hl 4 rfl) ?_
      refine vp_callSi (W.runV (As := []) (rest := []) S (c_X1_thrown) (cwV 0 hts gL_law_X1_thrown rfl rfl rfl hdX1_thrown ⟨Nat.le_of_ble_eq_true rfl, Nat.le_of_ble_eq_true rfl⟩) (preV hK2 hPm rfl rfl) rfl rfl hl.1 rfl (lv_room (Nat.le_of_ble_eq_true rfl)) dL_law_1129 ⟨hc.1, hc.2⟩) (fun r3 er3 => ?_)
      subst er3
      refine lv_iload hx hb dL_law_1132 (lv_at hl 1 rfl) ?_
      refine lv_icmp_eq (tgt := 1139) hx hb dL_law_1134 (by decide) (fun _ => ?_) (fun h => absurd rfl h)
      refine lv_iload hx hb dL_law_1139 (lv_at hl 1 rfl) ?_
      refine lv_if_ne (tgt := 1176) hx hb dL_law_1141 (by decide) (fun h1141_0 => ?_) (fun h1141_0 => absurd h1141_0 (by decide))
      refine lv_goto (tgt := 1355) hx hb dL_law_1176 (by decide) ?_
      exact K n rC inf out w e _ _ _ hOK ⟨_, _, _, _, _, _, _, _, _, _, _, hPx, hI, hO, hW, hE, _, hT, hT2⟩ ⟨_, _, _, _, _, _, _, _, _, _, _, hPm, hI', hO', hW', hE'⟩ hS (lv_sub hl [2, 3, 4, 5, 6, 7] rfl)
  · replace h1 := Bool.not_eq_true _ |>.mp h1
    refine lv_aload_n hx hb dL_law_1066 rfl (lv_at hl 1 rfl) ?_
    refine lv_aload_n hx hb dL_law_1067 rfl (lv_at hl 0 rfl) ?_
    refine lv_iload hx hb dL_law_1068 (lv_at hl 5 rfl) ?_
    refine lv_iconst (v := nI 1) hx hb dL_law_1070 (by decide) ?_
    refine w_iadd hx hb dL_law_1071 ?_
    refine w_scr hx hb hXs hbl hS (k := i + 1) (v := y1) hy1.symm (by omega) hL dL_law_1072 ?_
    refine lv_aload_n hx hb dL_law_1073 rfl (lv_at hl 0 rfl) ?_
    refine lv_iload hx hb dL_law_1074 (lv_at hl 5 rfl) ?_
    refine lv_iconst (v := nI 2) hx hb dL_law_1076 (by decide) ?_
    refine w_iadd hx hb dL_law_1077 ?_
    refine w_scr hx hb hXs hbl hS (k := i + 2) (v := y2) hy2.symm (by omega) hL dL_law_1078 ?_
    refine lv_aload_n hx hb dL_law_1079 rfl (lv_at hl 0 rfl) ?_
    refine lv_iload hx hb dL_law_1080 (lv_at hl 5 rfl) ?_
    refine lv_iconst (v := nI 3) hx hb dL_law_1082 (by decide) ?_
    refine w_iadd hx hb dL_law_1083 ?_
    refine w_scr hx hb hXs hbl hS (k := i + 3) (v := y3) hy3.symm (by omega) hL dL_law_1084 ?_
    refine lv_aload_n hx hb dL_law_1085 rfl (lv_at hl 0 rfl) ?_
    refine lv_iload hx hb dL_law_1086 (lv_at hl 5 rfl) ?_
    refine lv_iconst (v := nI 4) hx hb dL_law_1088 (by decide) ?_
    refine w_iadd hx hb dL_law_1089 ?_
    refine w_scr hx hb hXs hbl hS (k := i + 4) (v := y4) hy4.symm (by omega) hL dL_law_1090 ?_
    refine lv_aload hx hb dL_law_1091 (lv_at hl 4 rfl) ?_
    refine va_calli (vx_runSW (As := [.ref (q 0), .int y1, .int y2, .int y3, .int y4, .ref o2]) (rest := []) S (z_L_crossRatio1 ⟨rfl, rfl, Nat.le_of_ble_eq_true rfl, Nat.le_of_ble_eq_true rfl⟩ (x_X0_crossRatio1 hlt hn h1)) (vx_cwSW 6 hts gL_law_L_crossRatio rfl rfl rfl hdL_crossRatio ⟨Nat.le_of_ble_eq_true rfl, Nat.le_of_ble_eq_true rfl⟩) (preSX hK hPx (xG.keep hG hS)) rfl rfl hl.1 rfl (lv_room (Nat.le_of_ble_eq_true rfl)) dL_law_1093 ⟨hc.1, hc.2⟩) hS (fun _ _ h => h.elim) (fun _ h => h.elim) (fun r1 u1 t H locs ht hvm hw hB hz hk hS => ?_)
    have hPm := keepA hPm (wD_of hq' rfl) (fun x _ h => h) hk
    replace hw : r1 = nI 1 := hw
    subst hw
    replace hB : va_P D cls2 (cW q cI cD (nI n) rC fi fo fw fe ft fr fp fl ff ++ oW o o2 cJ cD f1 f2) t.heap := hB
    rw [ht] at hB
    have hPx := hB
    refine lv_istore (lv' := [(6, .int (nI 1)), (0, .ref b), (1, .ref (q 0)), (2, .ref (q' 0)), (3, .ref o), (4, .ref o2), (5, .int (nI i))]) hx hb dL_law_1096 hl (by decide) rfl (fun ls hl => ?_)
    refine lv_aload_n hx hb dL_law_1098 rfl (lv_at hl 3 rfl) ?_
    refine lv_aload_n hx hb dL_law_1099 rfl (lv_at hl 1 rfl) ?_
    refine lv_iload hx hb dL_law_1100 (lv_at hl 6 rfl) ?_
    refine lv_iconst (v := nI 1) hx hb dL_law_1102 (by decide) ?_
    refine w_iadd hx hb dL_law_1103 ?_
    refine w_scr hx hb hXs hbl hS (k := i + 1) (v := y1) hy1.symm (by omega) hL dL_law_1104 ?_
    refine lv_aload_n hx hb dL_law_1105 rfl (lv_at hl 1 rfl) ?_
    refine lv_iload hx hb dL_law_1106 (lv_at hl 6 rfl) ?_
    refine lv_iconst (v := nI 2) hx hb dL_law_1108 (by decide) ?_
    refine w_iadd hx hb dL_law_1109 ?_
    refine w_scr hx hb hXs hbl hS (k := i + 2) (v := y2) hy2.symm (by omega) hL dL_law_1110 ?_
    refine lv_aload_n hx hb dL_law_1111 rfl (lv_at hl 1 rfl) ?_
    refine lv_iload hx hb dL_law_1112 (lv_at hl 6 rfl) ?_
    refine lv_iconst (v := nI 3) hx hb dL_law_1114 (by decide) ?_
    refine w_iadd hx hb dL_law_1115 ?_
    refine w_scr hx hb hXs hbl hS (k := i + 3) (v := y3) hy3.symm (by omega) hL dL_law_1116 ?_
    refine lv_aload_n hx hb dL_law_1117 rfl (lv_at hl 1 rfl) ?_
    refine lv_iload hx hb dL_law_1118 (lv_at hl 6 rfl) ?_
    refine lv_iconst (v := nI 4) hx hb dL_law_1120 (by decide) ?_
    refine w_iadd hx hb dL_law_1121 ?_
    refine w_scr hx hb hXs hbl hS (k := i + 4) (v := y4) hy4.symm (by omega) hL dL_law_1122 ?_
    refine va_calld (va_runV (As := [.int y1, .int y2, .int y3, .int y4]) (rest := []) S (c_X1_crossRatiox1 hn (by rw [h1, Bool.false_and]) hq') (cwV 4 hts gL_law_X1_crossRatio rfl rfl rfl hdX1_crossRatio ⟨Nat.le_of_ble_eq_true rfl, Nat.le_of_ble_eq_true rfl⟩) (preV hK2 hPm rfl rfl) rfl rfl hl.1 rfl (lv_room (Nat.le_of_ble_eq_true rfl)) dL_law_1123 ⟨hc.1, hc.2⟩) hS (fun _ _ h => hA2 _ h) (fun _ h => hA2 _ h) (fun r2 u2 t H locs ht hvm hw2 hB hz hk hS => ?_)
    have hPx := keepA hPx (D12_of hd rfl) (fun x h1 h2 => hdis x h2 h1) hk
    replace hB : va_P D cls2 (mW q' cI cD (nI 1) (nI n) rC hh gi go gw ge gr gf gp gl gc) t.heap := hB
    rw [ht] at hB
    have hPm := hB
    refine lv_dstore (lv' := [(7, .double r2), (6, .int (nI 1)), (0, .ref b), (1, .ref (q 0)), (2, .ref (q' 0)), (3, .ref o), (4, .ref o2), (5, .int (nI i))]) hx hb dL_law_1126 hl (by decide) rfl (fun ls hl => ?_)
    refine lv_aload_n hx hb dL_law_1128 rfl (lv_at hl 4 rfl) ?_
    refine vp_callSi (W.runV (As := []) (rest := []) S (c_X1_thrown) (cwV 0 hts gL_law_X1_thrown rfl rfl rfl hdX1_thrown ⟨Nat.le_of_ble_eq_true rfl, Nat.le_of_ble_eq_true rfl⟩) (preV hK2 hPm rfl rfl) rfl rfl hl.1 rfl (lv_room (Nat.le_of_ble_eq_true rfl)) dL_law_1129 ⟨hc.1, hc.2⟩) (fun r3 er3 => ?_)
    subst er3
    refine lv_iload hx hb dL_law_1132 (lv_at hl 1 rfl) ?_
    refine lv_icmp_eq (tgt := 1139) hx hb dL_law_1134 (by decide) (fun _ => ?_) (fun h => absurd rfl h)
    refine lv_iload hx hb dL_law_1139 (lv_at hl 1 rfl) ?_
    refine lv_if_ne (tgt := 1176) hx hb dL_law_1141 (by decide) (fun h1141_0 => ?_) (fun h1141_0 => absurd h1141_0 (by decide))
    refine lv_goto (tgt := 1355) hx hb dL_law_1176 (by decide) ?_
    exact K n rC inf out w e _ _ _ hOK ⟨_, _, _, _, _, _, _, _, _, _, _, hPx, hI, hO, hW, hE, _, hT, hT2⟩ ⟨_, _, _, _, _, _, _, _, _, _, _, hPm, hI', hO', hW', hE'⟩ hS (lv_sub hl [2, 3, 4, 5, 6, 7] rfl)
