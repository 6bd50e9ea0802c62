abbrev rX0_roundedMisfit : Room := { frames := 6, cells := 0, slots := 0, locals := 142 }
theorem hdX0_roundedMisfit : yX0_roundedMisfit.cls = RX0 ∧ yX0_roundedMisfit.cls ≠ "java/lang/invoke/MethodHandle" ∧ yX0_roundedMisfit.cls ≠ "java/lang/invoke/VarHandle" ∧ (parseMethodDescriptor yX0_roundedMisfit.desc).map (fun d => d.parameters.length) = some 0 := by decide +kernel
set_option maxHeartbeats 4000000 in
set_option maxRecDepth 100000 in
theorem c_X0_roundedMisfit {l : Launch} {D : va_G} {q : Nat → Nat} {cI cD : ClassId} {rC : Int32} {fi fo fw : Nat → Int32} {fe : Nat → UInt64} {ft fr fp fl : Nat → Int32} {ff : Nat → UInt64} {n : Nat} (hn : 3 ≤ n ∧ n ≤ 6) {inf : Nat → Int32} (hI : ag1 n fi inf) {out : Nat → Int32} (hO : ag1 n fo out) {e : Nat → Nat → UInt64} (hE : ag2 n fe e) {T : Nat → Nat} (hT : ∀ j : Nat, j < 6 → ft j = nI (T j) ∧ T j < 64) {rt : Nat → Nat → Int32} (hR : ag2 n fr rt) {fs : Nat → UInt64} (hF : ag1 n ff fs) {op : Nat → Nat → Bool} (hT2 : ∀ i j : Nat, i < n → j < n → (T i).testBit j = op i j) (ho : ∀ i : Nat, i < n → okX n inf e i) (hq : qD q) : Met l yX0_roundedMisfit wsX0_roundedMisfit rX0_roundedMisfit (va_Pc [.ref (q 0)] (wPre D (tys2 cI cD) (cW q cI cD (nI n) rC fi fo fw fe ft fr fp fl ff))) (va_Qi (fun r (u : (Nat → Int32) × (Nat → UInt64)) => r = rdf n (rall op n inf e n (rt, fs)).1 out n) (fun u t => va_P D cls2 (cW q cI cD (nI n) rC fi fo fw fe ft u.1 fp fl u.2) t.heap) (qA q)) 0 0 (qA q) := by
  refine met_intro (cc := cX0_roundedMisfit) (maxL := 1) (ret := (some .int)) (own := RX0) (by decide) rfl rfl (Nat.le_of_ble_eq_true rfl) ?_
  intro pp ee ss mm args below meth cd Q ls hQ S hr hlocks hv hB hl
  obtain ⟨hx, hb, hml, hown, hts⟩ := id S
  obtain ⟨hP, hK⟩ := hB
  have hS : va_S (qA q) ss.heap ss.heap [] := va_S.rf
  generalize hHg : ss.heap = H at hP
  have hS : va_S (qA q) ss.heap H [] := by rw [← hHg]; exact hS
  suffices hgo : ∀ locs : List Loc, va_S (qA q) ss.heap H locs → W pp l ee rX0_roundedMisfit ss mm args below meth cd H locs 0 0 Q (F0 mm 0 ls []) by
    first | exact hgo [] hS | (rw [hHg]; exact hgo [] hS)
  clear hS
  intro locs hS
  have hl : lv_has ls 1 [(0, .ref (q 0))] := hl
  refine lv_aload_n hx hb dX0_roundedMisfit_0 rfl (lv_at hl 0 rfl) ?_
  refine va_callv (va_runV (As := []) (rest := []) S (c_X0_roundAllRows hn hI hE hT hR hF hT2 ho hq) (cwV 0 hts gX0_roundedMisfit_X0_roundAllRows rfl rfl rfl hdX0_roundAllRows ⟨Nat.le_of_ble_eq_true rfl, Nat.le_of_ble_eq_true rfl⟩) (preV hK hP rfl rfl) rfl rfl hl.1 rfl (lv_room (Nat.le_of_ble_eq_true rfl)) dX0_roundedMisfit_1 ⟨Nat.zero_le _, Nat.zero_le _⟩) hS (fun _ _ h => h) (fun _ h => h) (fun u_2 t H locs ht hvm hw_3 hB hz1 hk1 hS => ?_)
  replace hB : va_P D cls2 _ t.heap := hB
  rw [ht] at hB
  have hP : va_P D cls2 (cW q cI cD (nI n) rC fi fo fw fe ft u_2.1 fp fl u_2.2) H := hB
  refine lv_aload_n hx hb dX0_roundedMisfit_4 rfl (lv_at hl 0 rfl) ?_
  refine vp_callSi (W.runV (As := []) (rest := []) S (c_X0_roundedDifference hn hO hw_3.1) (cwV 0 hts gX0_roundedMisfit_X0_roundedDifference rfl rfl rfl hdX0_roundedDifference ⟨Nat.le_of_ble_eq_true rfl, Nat.le_of_ble_eq_true rfl⟩) (preV hK hP rfl rfl) rfl rfl hl.1 rfl (lv_room (Nat.le_of_ble_eq_true rfl)) dX0_roundedMisfit_5 ⟨Nat.zero_le _, Nat.zero_le _⟩) (fun r_4 er_4 => ?_)
  subst er_4
  subst hQ
  exact W.iret hx hb hr (fun t ht hWm => ⟨⟨_, (u_2.1, u_2.2), rfl, rfl, (show va_P D cls2 _ t.heap from by rw [ht]; exact hP)⟩, hS.F ht⟩) hS.2.2 dX0_roundedMisfit_8
abbrev rX0_reset : Room := { frames := 2, cells := 0, slots := 0, locals := 43 }
theorem hdX0_reset : yX0_reset.cls = RX0 ∧ yX0_reset.cls ≠ "java/lang/invoke/MethodHandle" ∧ yX0_reset.cls ≠ "java/lang/invoke/VarHandle" ∧ (parseMethodDescriptor yX0_reset.desc).map (fun d => d.parameters.length) = some 0 := by decide +kernel
set_option maxHeartbeats 4000000 in
set_option maxRecDepth 100000 in
theorem c_X0_reset {l : Launch} {D : va_G} {q : Nat → Nat} {cI cD : ClassId} {rC : Int32} {fi fo fw : Nat → Int32} {fe : Nat → UInt64} {ft fr fp fl : Nat → Int32} {ff : Nat → UInt64} {n : Nat} (hn : 3 ≤ n ∧ n ≤ 6) {w : Nat → Nat → Int32} (hW : ag2 n fw w)  (hq : qD q) : Met l yX0_reset wsX0_reset rX0_reset (va_Pc [.ref (q 0)] (wPre D (tys2 cI cD) (cW q cI cD (nI n) rC fi fo fw fe ft fr fp fl ff))) (va_Qi (fun r (u : Nat → UInt64) => r = rC ∧ ag2 n u (lay w)) (fun u t => va_P D cls2 (cW q cI cD (nI n) (nI 0) fi fo fw u ft fr fp fl ff) t.heap) (qA q)) 0 0 (qA q) := by
  refine met_intro (cc := cX0_reset) (maxL := 2) (ret := (some .int)) (own := RX0) (by decide) rfl rfl (Nat.le_of_ble_eq_true rfl) ?_
  intro pp ee ss mm args below meth cd Q ls hQ S hr hlocks hv hB hl
  obtain ⟨hx, hb, hml, hown, hts⟩ := id S
  obtain ⟨hP, hK⟩ := hB
  have in_w : ∀ w ∈ wsX00, w ∈ wsX0_reset := by decide +kernel
  have fl_95 : Cond.fieldLink RX0 95 RX0 (TX0 10).2.1 (TX0 10).2.2.1 ∈ wsX0_reset := by decide +kernel
  have hS : va_S (qA q) ss.heap ss.heap [] := va_S.rf
  generalize hHg : ss.heap = H at hP
  have hS : va_S (qA q) ss.heap H [] := by rw [← hHg]; exact hS
  suffices hgo : ∀ locs : List Loc, va_S (qA q) ss.heap H locs → W pp l ee rX0_reset ss mm args below meth cd H locs 0 0 Q (F0 mm 0 ls []) by
    first | exact hgo [] hS | (rw [hHg]; exact hgo [] hS)
  clear hS
  intro locs hS
  have hl : lv_has ls 2 [(0, .ref (q 0))] := hl
  refine lv_aload_n hx hb dX0_reset_0 rfl (lv_at hl 0 rfl) ?_
  refine w_getC (own := RX0) (v := .int rC) S in_w hK hP rfl 10 (by decide) fl_95 rfl rfl dX0_reset_1 ?_
  refine lv_istore_n (lv' := [(1, .int rC), (0, .ref (q 0))]) hx hb dX0_reset_4 rfl hl (by decide) rfl (fun ls hl => ?_)
  refine lv_aload_n hx hb dX0_reset_5 rfl (lv_at hl 1 rfl) ?_
  refine va_callv (va_runV (As := []) (rest := []) S (c_X0_resetEstimate hn hW hq) (cwV 0 hts gX0_reset_X0_resetEstimate rfl rfl rfl hdX0_resetEstimate ⟨Nat.le_of_ble_eq_true rfl, Nat.le_of_ble_eq_true rfl⟩) (preV hK hP rfl rfl) rfl rfl hl.1 rfl (lv_room (Nat.le_of_ble_eq_true rfl)) dX0_reset_6 ⟨Nat.zero_le _, Nat.zero_le _⟩) hS (fun _ _ h => h) (fun _ h => h) (fun u_2 t H locs ht hvm hw_3 hB hz1 hk1 hS => ?_)
  replace hB : va_P D cls2 _ t.heap := hB
  rw [ht] at hB
  have hP : va_P D cls2 (cW q cI cD (nI n) (nI 0) fi fo fw u_2 ft fr fp fl ff) H := hB
  refine lv_iload_n hx hb dX0_reset_9 rfl (lv_at hl 0 rfl) ?_
  subst hQ
  exact W.iret hx hb hr (fun t ht hWm => ⟨⟨_, u_2, rfl, ⟨rfl, hw_3⟩, (show va_P D cls2 _ t.heap from by rw [ht]; exact hP)⟩, hS.F ht⟩) hS.2.2 dX0_reset_10
abbrev rX0_digest : Room := { frames := 6, cells := 0, slots := 0, locals := 142 }
theorem hdX0_digest : yX0_digest.cls = RX0 ∧ yX0_digest.cls ≠ "java/lang/invoke/MethodHandle" ∧ yX0_digest.cls ≠ "java/lang/invoke/VarHandle" ∧ (parseMethodDescriptor yX0_digest.desc).map (fun d => d.parameters.length) = some 0 := by decide +kernel
set_option maxHeartbeats 4000000 in
set_option maxRecDepth 100000 in
theorem c_X0_digest {l : Launch} {D : va_G} {q : Nat → Nat} {cI cD : ClassId} {rC : Int32} {fi fo fw : Nat → Int32} {fe : Nat → UInt64} {ft fr fp fl : Nat → Int32} {ff : Nat → UInt64} {n : Nat} (hn : 3 ≤ n ∧ n ≤ 6) {inf : Nat → Int32} (hI : ag1 n fi inf) {out : Nat → Int32} (hO : ag1 n fo out) {w : Nat → Nat → Int32} (hW : ag2 n fw w) {e : Nat → Nat → UInt64} (hE : ag2 n fe e) {T : Nat → Nat} (hT : ∀ j : Nat, j < 6 → ft j = nI (T j) ∧ T j < 64) {rt : Nat → Nat → Int32} (hR : ag2 n fr rt) {fs : Nat → UInt64} (hF : ag1 n ff fs) {pt : Nat → Nat → Int32} (hp : ag2 n fp pt) {op : Nat → Nat → Bool} (hT2 : ∀ i j : Nat, i < n → j < n → (T i).testBit j = op i j) (ho : (∀ i : Nat, i < n → okX n inf e i) ∧ okM n inf out e ∧ vf_n64 (FP.dmul (misK n inf out e n) 4652007308841189376) ∧ ∀ i j : Nat, i < n → j < n → vf_n64 (FP.dmul (e i j) 4652007308841189376)) (hq : qD q) : Met l yX0_digest wsX0_digest rX0_digest (va_Pc [.ref (q 0)] (wPre D (tys2 cI cD) (cW q cI cD (nI n) rC fi fo fw fe ft fr fp fl ff))) (va_Ql (fun r (u : (Nat → Int32) × (Nat → UInt64) × (Nat → Int32) × (Nat → Int32)) => r = dgst n op rC inf out w e (rall op n inf e n (rt, fs)).1 (tbO n op inf (psb n op inf out) n (pt, out)).1) (fun u t => va_P D cls2 (cW q cI cD (nI n) rC fi fo fw fe ft u.1 u.2.2.1 u.2.2.2 u.2.1) t.heap) (qA q)) 0 0 (qA q) := by
  refine met_intro (cc := cX0_digest) (maxL := 5) (ret := (some .long)) (own := RX0) (by decide) rfl rfl (Nat.le_of_ble_eq_true rfl) ?_
  intro pp ee ss mm args below meth cd Q ls hQ S hr hlocks hv hB hl
  obtain ⟨hx, hb, hml, hown, hts⟩ := id S
  obtain ⟨hP, hK⟩ := hB
  have in_w : ∀ w ∈ wsX00, w ∈ wsX0_digest := by decide +kernel
  have fl_9 : Cond.fieldLink RX0 9 RX0 (TX0 0).2.1 (TX0 0).2.2.1 ∈ wsX0_digest := by decide +kernel
  have fl_13 : Cond.fieldLink RX0 13 RX0 (TX0 1).2.1 (TX0 1).2.2.1 ∈ wsX0_digest := by decide +kernel
  have fl_46 : Cond.fieldLink RX0 46 RX0 (TX0 9).2.1 (TX0 9).2.2.1 ∈ wsX0_digest := by decide +kernel
  have fl_95 : Cond.fieldLink RX0 95 RX0 (TX0 10).2.1 (TX0 10).2.2.1 ∈ wsX0_digest := by decide +kernel
  have hS : va_S (qA q) ss.heap ss.heap [] := va_S.rf
  generalize hHg : ss.heap = H at hP
  have hS : va_S (qA q) ss.heap H [] := by rw [← hHg]; exact hS
  suffices hgo : ∀ locs : List Loc, va_S (qA q) ss.heap H locs → W pp l ee rX0_digest ss mm args below meth cd H locs 0 0 Q (F0 mm 0 ls []) by
    first | exact hgo [] hS | (rw [hHg]; exact hgo [] hS)
  clear hS
  intro locs hS
  have hl : lv_has ls 5 [(0, .ref (q 0))] := hl
  refine lv_aload_n hx hb dX0_digest_0 rfl (lv_at hl 0 rfl) ?_
  refine va_callv (va_runV (As := []) (rest := []) S (c_X0_roundAllRows hn hI hE hT hR hF hT2 ho.1 hq) (cwV 0 hts gX0_digest_X0_roundAllRows rfl rfl rfl hdX0_roundAllRows ⟨Nat.le_of_ble_eq_true rfl, Nat.le_of_ble_eq_true rfl⟩) (preV hK hP rfl rfl) rfl rfl hl.1 rfl (lv_room (Nat.le_of_ble_eq_true rfl)) dX0_digest_1 ⟨Nat.zero_le _, Nat.zero_le _⟩) hS (fun _ _ h => h) (fun _ h => h) (fun u_2 t H locs ht hvm hw_3 hB hz1 hk1 hS => ?_)
  replace hB : va_P D cls2 _ t.heap := hB
  rw [ht] at hB
  have hP : va_P D cls2 (cW q cI cD (nI n) rC fi fo fw fe ft u_2.1 fp fl u_2.2) H := hB
  refine lv_aload_n hx hb dX0_digest_4 rfl (lv_at hl 0 rfl) ?_
  refine va_callv (va_runV (As := []) (rest := []) S (c_X0_fillPossibleTable hn hI hO hT hp hT2 hq) (cwV 0 hts gX0_digest_X0_fillPossibleTable rfl rfl rfl hdX0_fillPossibleTable ⟨Nat.le_of_ble_eq_true rfl, Nat.le_of_ble_eq_true rfl⟩) (preV hK hP rfl rfl) rfl rfl hl.1 rfl (lv_room (Nat.le_of_ble_eq_true rfl)) dX0_digest_5 ⟨Nat.zero_le _, Nat.zero_le _⟩) hS (fun _ _ h => h) (fun _ h => h) (fun u_5 t H locs ht hvm hw_6 hB hz1 hk1 hS => ?_)
  replace hB : va_P D cls2 _ t.heap := hB
  rw [ht] at hB
  have hP : va_P D cls2 (cW q cI cD (nI n) rC fi fo fw fe ft u_2.1 u_5.1 u_5.2 u_2.2) H := hB
  refine lv_ldc2 (v := 1873) hx hb hown (hts (.constantLong RX0 135 1873) (by decide +kernel)) dX0_digest_8 ?_
  refine lv_aload_n hx hb dX0_digest_11 rfl (lv_at hl 0 rfl) ?_
  refine w_getC (own := RX0) (v := .int (nI n)) S in_w hK hP rfl 9 (by decide) fl_46 rfl rfl dX0_digest_12 ?_
  refine lv_i2l hx hb dX0_digest_15 rfl ?_
  refine vp_callSl (W.runS (As := [.long 1873, .long (Int32.toInt64 (nI n))]) (rest := []) S (c_X0_mixed (a := 1873) (b := Int32.toInt64 (nI n))) (va_cwS 2 hts gX0_digest_X0_mixed rfl rfl rfl hdX0_mixed ⟨Nat.le_of_ble_eq_true rfl, Nat.le_of_ble_eq_true rfl⟩) preS rfl rfl hl.1 rfl (lv_room (Nat.le_of_ble_eq_true rfl)) dX0_digest_16 ⟨Nat.zero_le _, Nat.zero_le _⟩) (fun r_7 er_7 => ?_)
  subst er_7
  refine lv_lstore_n (lv' := [(1, .long (31 * 1873 + (Int32.toInt64 (nI n)))), (0, .ref (q 0))]) hx hb dX0_digest_19 rfl hl (by decide) rfl (fun ls hl => ?_)
  refine lv_iconst (v := nI 0) hx hb dX0_digest_20 (by decide) ?_
  refine lv_istore_n (lv' := [(3, .int (nI 0)), (1, .long (31 * 1873 + (Int32.toInt64 (nI n)))), (0, .ref (q 0))]) hx hb dX0_digest_21 rfl hl (by decide) rfl (fun ls hl => ?_)
  have lp22 : ∀ (j k : Nat), k + j = n → ∀ (H : Heap) (locs : List Loc), va_P D cls2 (cW q cI cD (nI n) rC fi fo fw fe ft u_2.1 u_5.1 u_5.2 u_2.2) H → va_S (qA q) ss.heap H locs → ∀ ls : Array Slot, lv_has ls 5 [(0, .ref (q 0)), (1, .long (dgA inf out k (31 * 1873 + Int32.toInt64 (nI n)))), (3, .int (nI k))] → W pp l ee rX0_digest ss mm args below meth cd H locs 0 0 Q (F0 mm 22 ls []) := by
    intro j
    induction j with
    | zero =>
      intro k hk_k H locs hP hS ls hl
      have hke_k : n = k := by omega
      subst hke_k
      refine lv_iload_n hx hb dX0_digest_22 rfl (lv_at hl 2 rfl) ?_
      refine lv_aload_n hx hb dX0_digest_23 rfl (lv_at hl 0 rfl) ?_
      refine w_getC (own := RX0) (v := .int (nI n)) S in_w hK hP rfl 9 (by decide) fl_46 rfl rfl dX0_digest_24 ?_
      refine lv_icmp_ge (tgt := 60) hx hb dX0_digest_27 (by decide) (fun h27_0 => ?_) (fun h27_0 => absurd (Int32.le_refl _) h27_0)
      refine lv_iconst (v := nI 0) hx hb dX0_digest_60 (by decide) ?_
      refine lv_istore_n (lv' := [(3, .int (nI 0)), (0, .ref (q 0)), (1, .long (dgA inf out n (31 * 1873 + Int32.toInt64 (nI n))))]) hx hb dX0_digest_61 rfl hl (by decide) rfl (fun ls hl => ?_)
      have lp62 : ∀ (j i : Nat), i + j = n → ∀ (H : Heap) (locs : List Loc), va_P D cls2 (cW q cI cD (nI n) rC fi fo fw fe ft u_2.1 u_5.1 u_5.2 u_2.2) H → va_S (qA q) ss.heap H locs → ∀ ls : Array Slot, lv_has ls 5 [(0, .ref (q 0)), (1, .long (dgO w e (rall op n inf e n (rt, fs)).1 (tbO n op inf (psb n op inf out) n (pt, out)).1 n i (dgA inf out n (31 * 1873 + Int32.toInt64 (nI n))))), (3, .int (nI i))] → W pp l ee rX0_digest ss mm args below meth cd H locs 0 0 Q (F0 mm 62 ls []) := by
        intro j
        induction j with
        | zero =>
          intro i hk_i H locs hP hS ls hl
          have hke_i : n = i := by omega
          subst hke_i
          refine lv_iload_n hx hb dX0_digest_62 rfl (lv_at hl 2 rfl) ?_
          refine lv_aload_n hx hb dX0_digest_63 rfl (lv_at hl 0 rfl) ?_
          refine w_getC (own := RX0) (v := .int (nI n)) S in_w hK hP rfl 9 (by decide) fl_46 rfl rfl dX0_digest_64 ?_
          refine lv_icmp_ge (tgt := 106) hx hb dX0_digest_67 (by decide) (fun h67_1 => ?_) (fun h67_1 => absurd (Int32.le_refl _) h67_1)
          refine lv_lload_n hx hb dX0_digest_106 rfl (lv_at hl 1 rfl) ?_
          refine lv_aload_n hx hb dX0_digest_107 rfl (lv_at hl 0 rfl) ?_
          refine vp_callSi (W.runV (As := []) (rest := [.long (dgO w e (rall op n inf e n (rt, fs)).1 (tbO n op inf (psb n op inf out) n (pt, out)).1 n n (dgA inf out n (31 * 1873 + Int32.toInt64 (nI n))))]) S (c_X0_imbalance hn hI hO) (cwV 0 hts gX0_digest_X0_imbalance rfl rfl rfl hdX0_imbalance ⟨Nat.le_of_ble_eq_true rfl, Nat.le_of_ble_eq_true rfl⟩) (preV hK hP rfl rfl) rfl rfl hl.1 rfl (lv_room (Nat.le_of_ble_eq_true rfl)) dX0_digest_108 ⟨Nat.zero_le _, Nat.zero_le _⟩) (fun r_8 er_8 => ?_)
          subst er_8
          refine lv_i2l hx hb dX0_digest_111 rfl ?_
          refine vp_callSl (W.runS (As := [.long (dgO w e (rall op n inf e n (rt, fs)).1 (tbO n op inf (psb n op inf out) n (pt, out)).1 n n (dgA inf out n (31 * 1873 + Int32.toInt64 (nI n)))), .long (Int32.toInt64 (dif n inf out))]) (rest := []) S (c_X0_mixed (a := dgO w e (rall op n inf e n (rt, fs)).1 (tbO n op inf (psb n op inf out) n (pt, out)).1 n n (dgA inf out n (31 * 1873 + Int32.toInt64 (nI n)))) (b := Int32.toInt64 (dif n inf out))) (va_cwS 2 hts gX0_digest_X0_mixed rfl rfl rfl hdX0_mixed ⟨Nat.le_of_ble_eq_true rfl, Nat.le_of_ble_eq_true rfl⟩) preS rfl rfl hl.1 rfl (lv_room (Nat.le_of_ble_eq_true rfl)) dX0_digest_112 ⟨Nat.zero_le _, Nat.zero_le _⟩) (fun r_9 er_9 => ?_)
          subst er_9
          refine lv_lstore_n (lv' := [(1, .long (31 * (dgO w e (rall op n inf e n (rt, fs)).1 (tbO n op inf (psb n op inf out) n (pt, out)).1 n n (dgA inf out n (31 * 1873 + Int32.toInt64 (nI n)))) + (Int32.toInt64 (dif n inf out)))), (0, .ref (q 0)), (3, .int (nI n))]) hx hb dX0_digest_115 rfl hl (by decide) rfl (fun ls hl => ?_)
          refine lv_lload_n hx hb dX0_digest_116 rfl (lv_at hl 0 rfl) ?_
          refine lv_aload_n hx hb dX0_digest_117 rfl (lv_at hl 1 rfl) ?_
          refine vp_callSi (W.runV (As := []) (rest := [.long (31 * (dgO w e (rall op n inf e n (rt, fs)).1 (tbO n op inf (psb n op inf out) n (pt, out)).1 n n (dgA inf out n (31 * 1873 + Int32.toInt64 (nI n)))) + (Int32.toInt64 (dif n inf out)))]) S (c_X0_crowdedSet hn hI hO hT hT2) (cwV 0 hts gX0_digest_X0_crowdedSet rfl rfl rfl hdX0_crowdedSet ⟨Nat.le_of_ble_eq_true rfl, Nat.le_of_ble_eq_true rfl⟩) (preV hK hP rfl rfl) rfl rfl hl.1 rfl (lv_room (Nat.le_of_ble_eq_true rfl)) dX0_digest_118 ⟨Nat.zero_le _, Nat.zero_le _⟩) (fun r_10 er_10 => ?_)
          subst er_10
          refine lv_i2l hx hb dX0_digest_121 rfl ?_
          refine vp_callSl (W.runS (As := [.long (31 * (dgO w e (rall op n inf e n (rt, fs)).1 (tbO n op inf (psb n op inf out) n (pt, out)).1 n n (dgA inf out n (31 * 1873 + Int32.toInt64 (nI n)))) + (Int32.toInt64 (dif n inf out))), .long (Int32.toInt64 (crd n op inf out))]) (rest := []) S (c_X0_mixed (a := 31 * (dgO w e (rall op n inf e n (rt, fs)).1 (tbO n op inf (psb n op inf out) n (pt, out)).1 n n (dgA inf out n (31 * 1873 + Int32.toInt64 (nI n)))) + (Int32.toInt64 (dif n inf out))) (b := Int32.toInt64 (crd n op inf out))) (va_cwS 2 hts gX0_digest_X0_mixed rfl rfl rfl hdX0_mixed ⟨Nat.le_of_ble_eq_true rfl, Nat.le_of_ble_eq_true rfl⟩) preS rfl rfl hl.1 rfl (lv_room (Nat.le_of_ble_eq_true rfl)) dX0_digest_122 ⟨Nat.zero_le _, Nat.zero_le _⟩) (fun r_11 er_11 => ?_)
          subst er_11
          refine lv_lstore_n (lv' := [(1, .long (31 * (31 * (dgO w e (rall op n inf e n (rt, fs)).1 (tbO n op inf (psb n op inf out) n (pt, out)).1 n n (dgA inf out n (31 * 1873 + Int32.toInt64 (nI n)))) + (Int32.toInt64 (dif n inf out))) + (Int32.toInt64 (crd n op inf out)))), (0, .ref (q 0)), (3, .int (nI n))]) hx hb dX0_digest_125 rfl hl (by decide) rfl (fun ls hl => ?_)
          refine lv_lload_n hx hb dX0_digest_126 rfl (lv_at hl 0 rfl) ?_
          refine lv_aload_n hx hb dX0_digest_127 rfl (lv_at hl 1 rfl) ?_
          refine w_getC (own := RX0) (v := .int rC) S in_w hK hP rfl 10 (by decide) fl_95 rfl rfl dX0_digest_128 ?_
          refine lv_i2l hx hb dX0_digest_131 rfl ?_
          refine vp_callSl (W.runS (As := [.long (31 * (31 * (dgO w e (rall op n inf e n (rt, fs)).1 (tbO n op inf (psb n op inf out) n (pt, out)).1 n n (dgA inf out n (31 * 1873 + Int32.toInt64 (nI n)))) + (Int32.toInt64 (dif n inf out))) + (Int32.toInt64 (crd n op inf out))), .long (Int32.toInt64 rC)]) (rest := []) S (c_X0_mixed (a := 31 * (31 * (dgO w e (rall op n inf e n (rt, fs)).1 (tbO n op inf (psb n op inf out) n (pt, out)).1 n n (dgA inf out n (31 * 1873 + Int32.toInt64 (nI n)))) + (Int32.toInt64 (dif n inf out))) + (Int32.toInt64 (crd n op inf out))) (b := Int32.toInt64 rC)) (va_cwS 2 hts gX0_digest_X0_mixed rfl rfl rfl hdX0_mixed ⟨Nat.le_of_ble_eq_true rfl, Nat.le_of_ble_eq_true rfl⟩) preS rfl rfl hl.1 rfl (lv_room (Nat.le_of_ble_eq_true rfl)) dX0_digest_132 ⟨Nat.zero_le _, Nat.zero_le _⟩) (fun r_12 er_12 => ?_)
          subst er_12
          refine lv_lstore_n (lv' := [(1, .long (31 * (31 * (31 * (dgO w e (rall op n inf e n (rt, fs)).1 (tbO n op inf (psb n op inf out) n (pt, out)).1 n n (dgA inf out n (31 * 1873 + Int32.toInt64 (nI n)))) + (Int32.toInt64 (dif n inf out))) + (Int32.toInt64 (crd n op inf out))) + (Int32.toInt64 rC))), (0, .ref (q 0)), (3, .int (nI n))]) hx hb dX0_digest_135 rfl hl (by decide) rfl (fun ls hl => ?_)
          refine lv_lload_n hx hb dX0_digest_136 rfl (lv_at hl 0 rfl) ?_
          refine lv_aload_n hx hb dX0_digest_137 rfl (lv_at hl 1 rfl) ?_
          refine vp_callSd (W.runV (As := []) (rest := [.long (31 * (31 * (31 * (dgO w e (rall op n inf e n (rt, fs)).1 (tbO n op inf (psb n op inf out) n (pt, out)).1 n n (dgA inf out n (31 * 1873 + Int32.toInt64 (nI n)))) + (Int32.toInt64 (dif n inf out))) + (Int32.toInt64 (crd n op inf out))) + (Int32.toInt64 rC))]) S (c_X0_misfit hn hI hO hE ho.2.1) (cwV 0 hts gX0_digest_X0_misfit rfl rfl rfl hdX0_misfit ⟨Nat.le_of_ble_eq_true rfl, Nat.le_of_ble_eq_true rfl⟩) (preV hK hP rfl rfl) rfl rfl hl.1 rfl (lv_room (Nat.le_of_ble_eq_true rfl)) dX0_digest_138 ⟨Nat.zero_le _, Nat.zero_le _⟩) (fun r_13 er_13 => ?_)
          subst er_13
          refine vp_callSl (W.runS (As := [.double (misK n inf out e n)]) (rest := [.long (31 * (31 * (31 * (dgO w e (rall op n inf e n (rt, fs)).1 (tbO n op inf (psb n op inf out) n (pt, out)).1 n n (dgA inf out n (31 * 1873 + Int32.toInt64 (nI n)))) + (Int32.toInt64 (dif n inf out))) + (Int32.toInt64 (crd n op inf out))) + (Int32.toInt64 rC))]) S (c_X0_thousandthsOf (x := misK n inf out e n) ho.2.2.1) (va_cwS 1 hts gX0_digest_X0_thousandthsOf rfl rfl rfl hdX0_thousandthsOf ⟨Nat.le_of_ble_eq_true rfl, Nat.le_of_ble_eq_true rfl⟩) preS rfl rfl hl.1 rfl (lv_room (Nat.le_of_ble_eq_true rfl)) dX0_digest_141 ⟨Nat.zero_le _, Nat.zero_le _⟩) (fun r_14 er_14 => ?_)
          subst er_14
          refine vp_callSl (W.runS (As := [.long (31 * (31 * (31 * (dgO w e (rall op n inf e n (rt, fs)).1 (tbO n op inf (psb n op inf out) n (pt, out)).1 n n (dgA inf out n (31 * 1873 + Int32.toInt64 (nI n)))) + (Int32.toInt64 (dif n inf out))) + (Int32.toInt64 (crd n op inf out))) + (Int32.toInt64 rC)), .long (FP.d2l (FP.dmul (misK n inf out e n) 4652007308841189376))]) (rest := []) S (c_X0_mixed (a := 31 * (31 * (31 * (dgO w e (rall op n inf e n (rt, fs)).1 (tbO n op inf (psb n op inf out) n (pt, out)).1 n n (dgA inf out n (31 * 1873 + Int32.toInt64 (nI n)))) + (Int32.toInt64 (dif n inf out))) + (Int32.toInt64 (crd n op inf out))) + (Int32.toInt64 rC)) (b := FP.d2l (FP.dmul (misK n inf out e n) 4652007308841189376))) (va_cwS 2 hts gX0_digest_X0_mixed rfl rfl rfl hdX0_mixed ⟨Nat.le_of_ble_eq_true rfl, Nat.le_of_ble_eq_true rfl⟩) preS rfl rfl hl.1 rfl (lv_room (Nat.le_of_ble_eq_true rfl)) dX0_digest_144 ⟨Nat.zero_le _, Nat.zero_le _⟩) (fun r_15 er_15 => ?_)
          subst er_15
          refine lv_lstore_n (lv' := [(1, .long (31 * (31 * (31 * (31 * (dgO w e (rall op n inf e n (rt, fs)).1 (tbO n op inf (psb n op inf out) n (pt, out)).1 n n (dgA inf out n (31 * 1873 + Int32.toInt64 (nI n)))) + (Int32.toInt64 (dif n inf out))) + (Int32.toInt64 (crd n op inf out))) + (Int32.toInt64 rC)) + (FP.d2l (FP.dmul (misK n inf out e n) 4652007308841189376)))), (0, .ref (q 0)), (3, .int (nI n))]) hx hb dX0_digest_147 rfl hl (by decide) rfl (fun ls hl => ?_)
          refine lv_lload_n hx hb dX0_digest_148 rfl (lv_at hl 0 rfl) ?_
          refine lv_aload_n hx hb dX0_digest_149 rfl (lv_at hl 1 rfl) ?_
          refine vp_callSi (W.runV (As := []) (rest := [.long (31 * (31 * (31 * (31 * (dgO w e (rall op n inf e n (rt, fs)).1 (tbO n op inf (psb n op inf out) n (pt, out)).1 n n (dgA inf out n (31 * 1873 + Int32.toInt64 (nI n)))) + (Int32.toInt64 (dif n inf out))) + (Int32.toInt64 (crd n op inf out))) + (Int32.toInt64 rC)) + (FP.d2l (FP.dmul (misK n inf out e n) 4652007308841189376)))]) S (c_X0_busiestTurn hn hE) (cwV 0 hts gX0_digest_X0_busiestTurn rfl rfl rfl hdX0_busiestTurn ⟨Nat.le_of_ble_eq_true rfl, Nat.le_of_ble_eq_true rfl⟩) (preV hK hP rfl rfl) rfl rfl hl.1 rfl (lv_room (Nat.le_of_ble_eq_true rfl)) dX0_digest_150 ⟨Nat.zero_le _, Nat.zero_le _⟩) (fun r_16 er_16 => ?_)
          subst er_16
          refine lv_i2l hx hb dX0_digest_153 rfl ?_
          refine vp_callSl (W.runS (As := [.long (31 * (31 * (31 * (31 * (dgO w e (rall op n inf e n (rt, fs)).1 (tbO n op inf (psb n op inf out) n (pt, out)).1 n n (dgA inf out n (31 * 1873 + Int32.toInt64 (nI n)))) + (Int32.toInt64 (dif n inf out))) + (Int32.toInt64 (crd n op inf out))) + (Int32.toInt64 rC)) + (FP.d2l (FP.dmul (misK n inf out e n) 4652007308841189376))), .long (Int32.toInt64 ((busO e n n).1))]) (rest := []) S (c_X0_mixed (a := 31 * (31 * (31 * (31 * (dgO w e (rall op n inf e n (rt, fs)).1 (tbO n op inf (psb n op inf out) n (pt, out)).1 n n (dgA inf out n (31 * 1873 + Int32.toInt64 (nI n)))) + (Int32.toInt64 (dif n inf out))) + (Int32.toInt64 (crd n op inf out))) + (Int32.toInt64 rC)) + (FP.d2l (FP.dmul (misK n inf out e n) 4652007308841189376))) (b := Int32.toInt64 ((busO e n n).1))) (va_cwS 2 hts gX0_digest_X0_mixed rfl rfl rfl hdX0_mixed ⟨Nat.le_of_ble_eq_true rfl, Nat.le_of_ble_eq_true rfl⟩) preS rfl rfl hl.1 rfl (lv_room (Nat.le_of_ble_eq_true rfl)) dX0_digest_154 ⟨Nat.zero_le _, Nat.zero_le _⟩) (fun r_17 er_17 => ?_)
          subst er_17
          refine lv_lstore_n (lv' := [(1, .long (31 * (31 * (31 * (31 * (31 * (dgO w e (rall op n inf e n (rt, fs)).1 (tbO n op inf (psb n op inf out) n (pt, out)).1 n n (dgA inf out n (31 * 1873 + Int32.toInt64 (nI n)))) + (Int32.toInt64 (dif n inf out))) + (Int32.toInt64 (crd n op inf out))) + (Int32.toInt64 rC)) + (FP.d2l (FP.dmul (misK n inf out e n) 4652007308841189376))) + (Int32.toInt64 ((busO e n n).1)))), (0, .ref (q 0)), (3, .int (nI n))]) hx hb dX0_digest_157 rfl hl (by decide) rfl (fun ls hl => ?_)
          refine lv_lload_n hx hb dX0_digest_158 rfl (lv_at hl 0 rfl) ?_
          refine lv_aload_n hx hb dX0_digest_159 rfl (lv_at hl 1 rfl) ?_
          refine vp_callSi (W.runV (As := []) (rest := [.long (31 * (31 * (31 * (31 * (31 * (dgO w e (rall op n inf e n (rt, fs)).1 (tbO n op inf (psb n op inf out) n (pt, out)).1 n n (dgA inf out n (31 * 1873 + Int32.toInt64 (nI n)))) + (Int32.toInt64 (dif n inf out))) + (Int32.toInt64 (crd n op inf out))) + (Int32.toInt64 rC)) + (FP.d2l (FP.dmul (misK n inf out e n) 4652007308841189376))) + (Int32.toInt64 ((busO e n n).1)))]) S (c_X0_roundedDifference hn hO hw_3.1) (cwV 0 hts gX0_digest_X0_roundedDifference rfl rfl rfl hdX0_roundedDifference ⟨Nat.le_of_ble_eq_true rfl, Nat.le_of_ble_eq_true rfl⟩) (preV hK hP rfl rfl) rfl rfl hl.1 rfl (lv_room (Nat.le_of_ble_eq_true rfl)) dX0_digest_160 ⟨Nat.zero_le _, Nat.zero_le _⟩) (fun r_18 er_18 => ?_)
          subst er_18
          refine lv_i2l hx hb dX0_digest_163 rfl ?_
          refine vp_callSl (W.runS (As := [.long (31 * (31 * (31 * (31 * (31 * (dgO w e (rall op n inf e n (rt, fs)).1 (tbO n op inf (psb n op inf out) n (pt, out)).1 n n (dgA inf out n (31 * 1873 + Int32.toInt64 (nI n)))) + (Int32.toInt64 (dif n inf out))) + (Int32.toInt64 (crd n op inf out))) + (Int32.toInt64 rC)) + (FP.d2l (FP.dmul (misK n inf out e n) 4652007308841189376))) + (Int32.toInt64 ((busO e n n).1))), .long (Int32.toInt64 (rdf n ((rall op n inf e n (rt, fs)).1) out n))]) (rest := []) S (c_X0_mixed (a := 31 * (31 * (31 * (31 * (31 * (dgO w e (rall op n inf e n (rt, fs)).1 (tbO n op inf (psb n op inf out) n (pt, out)).1 n n (dgA inf out n (31 * 1873 + Int32.toInt64 (nI n)))) + (Int32.toInt64 (dif n inf out))) + (Int32.toInt64 (crd n op inf out))) + (Int32.toInt64 rC)) + (FP.d2l (FP.dmul (misK n inf out e n) 4652007308841189376))) + (Int32.toInt64 ((busO e n n).1))) (b := Int32.toInt64 (rdf n ((rall op n inf e n (rt, fs)).1) out n))) (va_cwS 2 hts gX0_digest_X0_mixed rfl rfl rfl hdX0_mixed ⟨Nat.le_of_ble_eq_true rfl, Nat.le_of_ble_eq_true rfl⟩) preS rfl rfl hl.1 rfl (lv_room (Nat.le_of_ble_eq_true rfl)) dX0_digest_164 ⟨Nat.zero_le _, Nat.zero_le _⟩) (fun r_19 er_19 => ?_)
          subst er_19
          subst hQ
          exact W.lret hx hb hr (fun t ht hWm => ⟨⟨_, (u_2.1, u_2.2, u_5.1, u_5.2), rfl, rfl, (show va_P D cls2 _ t.heap from by rw [ht]; exact hP)⟩, hS.F ht⟩) hS.2.2 dX0_digest_167
        | succ j ih =>
          intro i hk_i H locs hP hS ls hl
          have hlt_i : i < n := by omega
          refine lv_iload_n hx hb dX0_digest_62 rfl (lv_at hl 2 rfl) ?_
          refine lv_aload_n hx hb dX0_digest_63 rfl (lv_at hl 0 rfl) ?_
          refine w_getC (own := RX0) (v := .int (nI n)) S in_w hK hP rfl 9 (by decide) fl_46 rfl rfl dX0_digest_64 ?_
          refine lv_icmp_ge (tgt := 106) hx hb dX0_digest_67 (by decide) (fun h67_1 => absurd h67_1 (nI_ge hlt_i (by omega))) (fun h67_1 => ?_)
          refine lv_iconst (v := nI 0) hx hb dX0_digest_70 (by decide) ?_
          refine lv_istore (lv' := [(4, .int (nI 0)), (0, .ref (q 0)), (1, .long (dgO w e (rall op n inf e n (rt, fs)).1 (tbO n op inf (psb n op inf out) n (pt, out)).1 n i (dgA inf out n (31 * 1873 + Int32.toInt64 (nI n))))), (3, .int (nI i))]) hx hb dX0_digest_71 hl (by decide) rfl (fun ls hl => ?_)
          have lp73 : ∀ (j k : Nat), k + j = n → ∀ (H : Heap) (locs : List Loc), va_P D cls2 (cW q cI cD (nI n) rC fi fo fw fe ft u_2.1 u_5.1 u_5.2 u_2.2) H → va_S (qA q) ss.heap H locs → ∀ ls : Array Slot, lv_has ls 5 [(0, .ref (q 0)), (1, .long (dgI w e (rall op n inf e n (rt, fs)).1 (tbO n op inf (psb n op inf out) n (pt, out)).1 i k (dgO w e (rall op n inf e n (rt, fs)).1 (tbO n op inf (psb n op inf out) n (pt, out)).1 n i (dgA inf out n (31 * 1873 + Int32.toInt64 (nI n)))))), (3, .int (nI i)), (4, .int (nI k))] → W pp l ee rX0_digest ss mm args below meth cd H locs 0 0 Q (F0 mm 73 ls []) := by
            intro j
            induction j with
            | zero =>
              intro k hk_k H locs hP hS ls hl
              have hke_k : n = k := by omega
              subst hke_k
              refine lv_iload hx hb dX0_digest_73 (lv_at hl 3 rfl) ?_
              refine lv_aload_n hx hb dX0_digest_75 rfl (lv_at hl 0 rfl) ?_
              refine w_getC (own := RX0) (v := .int (nI n)) S in_w hK hP rfl 9 (by decide) fl_46 rfl rfl dX0_digest_76 ?_
              refine lv_icmp_ge (tgt := 100) hx hb dX0_digest_79 (by decide) (fun h79_2 => ?_) (fun h79_2 => absurd (Int32.le_refl _) h79_2)
              refine lv_iinc (v := nI (i + 1)) (lv' := [(3, .int (nI (i + 1))), (0, .ref (q 0)), (1, .long (dgI w e (rall op n inf e n (rt, fs)).1 (tbO n op inf (psb n op inf out) n (pt, out)).1 i n (dgO w e (rall op n inf e n (rt, fs)).1 (tbO n op inf (psb n op inf out) n (pt, out)).1 n i (dgA inf out n (31 * 1873 + Int32.toInt64 (nI n)))))), (4, .int (nI n))]) hx hb dX0_digest_100 hl (k := 2) rfl (by rw [show Int32.ofInt 1 = nI 1 from by decide, nI_add]) (by decide) rfl (fun ls hl => ?_)
              refine lv_goto (tgt := 62) hx hb dX0_digest_103 (by decide) ?_
              have eq_20 : dgO w e (rall op n inf e n (rt, fs)).1 (tbO n op inf (psb n op inf out) n (pt, out)).1 n (i + 1) (dgA inf out n (31 * 1873 + Int32.toInt64 (nI n))) = dgI w e (rall op n inf e n (rt, fs)).1 (tbO n op inf (psb n op inf out) n (pt, out)).1 i n (dgO w e (rall op n inf e n (rt, fs)).1 (tbO n op inf (psb n op inf out) n (pt, out)).1 n i (dgA inf out n (31 * 1873 + Int32.toInt64 (nI n)))) := by rfl
              have hl : lv_has ls 5 [(3, .int (nI (i + 1))), (0, .ref (q 0)), (1, .long (dgO w e (rall op n inf e n (rt, fs)).1 (tbO n op inf (psb n op inf out) n (pt, out)).1 n (i + 1) (dgA inf out n (31 * 1873 + Int32.toInt64 (nI n))))), (4, .int (nI n))] := by first | exact hl | (rw [eq_20]; exact hl)
              exact ih (i + 1) (by omega) _ _ hP hS ls (lv_sub hl [1, 2, 0] rfl)
            | succ j ih =>
              intro k hk_k H locs hP hS ls hl
              have hlt_k : k < n := by omega
              refine lv_iload hx hb dX0_digest_73 (lv_at hl 3 rfl) ?_
              refine lv_aload_n hx hb dX0_digest_75 rfl (lv_at hl 0 rfl) ?_
              refine w_getC (own := RX0) (v := .int (nI n)) S in_w hK hP rfl 9 (by decide) fl_46 rfl rfl dX0_digest_76 ?_
              refine lv_icmp_ge (tgt := 100) hx hb dX0_digest_79 (by decide) (fun h79_2 => absurd h79_2 (nI_ge hlt_k (by omega))) (fun h79_2 => ?_)
              refine lv_aload_n hx hb dX0_digest_82 rfl (lv_at hl 0 rfl) ?_
              refine lv_lload_n hx hb dX0_digest_83 rfl (lv_at hl 1 rfl) ?_
              refine lv_iload_n hx hb dX0_digest_84 rfl (lv_at hl 2 rfl) ?_
              refine lv_iload hx hb dX0_digest_85 (lv_at hl 3 rfl) ?_
              refine vp_callSi (W.runS (As := [.int (nI i), .int (nI k)]) (rest := [.long (dgI w e (rall op n inf e n (rt, fs)).1 (tbO n op inf (psb n op inf out) n (pt, out)).1 i k (dgO w e (rall op n inf e n (rt, fs)).1 (tbO n op inf (psb n op inf out) n (pt, out)).1 n i (dgA inf out n (31 * 1873 + Int32.toInt64 (nI n))))), .ref (q 0)]) S (c_X0_turn (i := i) (k := k)) (va_cwS 2 hts gX0_digest_X0_turn rfl rfl rfl hdX0_turn ⟨Nat.le_of_ble_eq_true rfl, Nat.le_of_ble_eq_true rfl⟩) preS rfl rfl hl.1 rfl (lv_room (Nat.le_of_ble_eq_true rfl)) dX0_digest_87 ⟨Nat.zero_le _, Nat.zero_le _⟩) (fun r_21 er_21 => ?_)
              subst er_21
              refine vp_callSl (W.runV (As := [.long (dgI w e (rall op n inf e n (rt, fs)).1 (tbO n op inf (psb n op inf out) n (pt, out)).1 i k (dgO w e (rall op n inf e n (rt, fs)).1 (tbO n op inf (psb n op inf out) n (pt, out)).1 n i (dgA inf out n (31 * 1873 + Int32.toInt64 (nI n))))), .int (nI (6 * i + k))]) (rest := []) S (c_X0_mixedTurn hn hW hE hw_3.1 hw_6 (h0 := dgI w e (rall op n inf e n (rt, fs)).1 (tbO n op inf (psb n op inf out) n (pt, out)).1 i k (dgO w e (rall op n inf e n (rt, fs)).1 (tbO n op inf (psb n op inf out) n (pt, out)).1 n i (dgA inf out n (31 * 1873 + Int32.toInt64 (nI n))))) (i := i) (k := k) (by omega) (by omega) (ho.2.2.2 i k (by omega) (by omega))) (cwV 2 hts gX0_digest_X0_mixedTurn rfl rfl rfl hdX0_mixedTurn ⟨Nat.le_of_ble_eq_true rfl, Nat.le_of_ble_eq_true rfl⟩) (preV hK hP rfl rfl) rfl rfl hl.1 rfl (lv_room (Nat.le_of_ble_eq_true rfl)) dX0_digest_90 ⟨Nat.zero_le _, Nat.zero_le _⟩) (fun r_22 er_22 => ?_)
              subst er_22
              refine lv_lstore_n (lv' := [(1, .long (mxT (dgI w e (rall op n inf e n (rt, fs)).1 (tbO n op inf (psb n op inf out) n (pt, out)).1 i k (dgO w e (rall op n inf e n (rt, fs)).1 (tbO n op inf (psb n op inf out) n (pt, out)).1 n i (dgA inf out n (31 * 1873 + Int32.toInt64 (nI n))))) (w i k) (FP.d2l (FP.dmul (e i k) 4652007308841189376)) (((rall op n inf e n (rt, fs)).1) i k) (((tbO n op inf (psb n op inf out) n (pt, out)).1) i k))), (0, .ref (q 0)), (3, .int (nI i)), (4, .int (nI k))]) hx hb dX0_digest_93 rfl hl (by decide) rfl (fun ls hl => ?_)
              refine lv_iinc (v := nI (k + 1)) (lv' := [(4, .int (nI (k + 1))), (1, .long (mxT (dgI w e (rall op n inf e n (rt, fs)).1 (tbO n op inf (psb n op inf out) n (pt, out)).1 i k (dgO w e (rall op n inf e n (rt, fs)).1 (tbO n op inf (psb n op inf out) n (pt, out)).1 n i (dgA inf out n (31 * 1873 + Int32.toInt64 (nI n))))) (w i k) (FP.d2l (FP.dmul (e i k) 4652007308841189376)) (((rall op n inf e n (rt, fs)).1) i k) (((tbO n op inf (psb n op inf out) n (pt, out)).1) i k))), (0, .ref (q 0)), (3, .int (nI i))]) hx hb dX0_digest_94 hl (k := 3) rfl (by rw [show Int32.ofInt 1 = nI 1 from by decide, nI_add]) (by decide) rfl (fun ls hl => ?_)
              refine lv_goto (tgt := 73) hx hb dX0_digest_97 (by decide) ?_
              have eq_23 : dgI w e (rall op n inf e n (rt, fs)).1 (tbO n op inf (psb n op inf out) n (pt, out)).1 i (k + 1) (dgO w e (rall op n inf e n (rt, fs)).1 (tbO n op inf (psb n op inf out) n (pt, out)).1 n i (dgA inf out n (31 * 1873 + Int32.toInt64 (nI n)))) = mxT (dgI w e (rall op n inf e n (rt, fs)).1 (tbO n op inf (psb n op inf out) n (pt, out)).1 i k (dgO w e (rall op n inf e n (rt, fs)).1 (tbO n op inf (psb n op inf out) n (pt, out)).1 n i (dgA inf out n (31 * 1873 + Int32.toInt64 (nI n))))) (w i k) (FP.d2l (FP.dmul (e i k) 4652007308841189376)) (((rall op n inf e n (rt, fs)).1) i k) (((tbO n op inf (psb n op inf out) n (pt, out)).1) i k) := by rfl
              have hl : lv_has ls 5 [(4, .int (nI (k + 1))), (1, .long (dgI w e (rall op n inf e n (rt, fs)).1 (tbO n op inf (psb n op inf out) n (pt, out)).1 i (k + 1) (dgO w e (rall op n inf e n (rt, fs)).1 (tbO n op inf (psb n op inf out) n (pt, out)).1 n i (dgA inf out n (31 * 1873 + Int32.toInt64 (nI n)))))), (0, .ref (q 0)), (3, .int (nI i))] := by first | exact hl | (rw [eq_23]; exact hl)
              exact ih (k + 1) (by omega) _ _ hP hS ls (lv_sub hl [2, 1, 3, 0] rfl)
          exact lp73 (n - 0) 0 (by omega) _ _ hP hS ls (lv_sub hl [1, 2, 3, 0] rfl)
      exact lp62 (n - 0) 0 (by omega) _ _ hP hS ls (lv_sub hl [1, 2, 0] rfl)
    | succ j ih =>
      intro k hk_k H locs hP hS ls hl
      have hlt_k : k < n := by omega
      refine lv_iload_n hx hb dX0_digest_22 rfl (lv_at hl 2 rfl) ?_
      refine lv_aload_n hx hb dX0_digest_23 rfl (lv_at hl 0 rfl) ?_
      refine w_getC (own := RX0) (v := .int (nI n)) S in_w hK hP rfl 9 (by decide) fl_46 rfl rfl dX0_digest_24 ?_
      refine lv_icmp_ge (tgt := 60) hx hb dX0_digest_27 (by decide) (fun h27_0 => absurd h27_0 (nI_ge hlt_k (by omega))) (fun h27_0 => ?_)
      refine lv_lload_n hx hb dX0_digest_30 rfl (lv_at hl 1 rfl) ?_
      refine lv_aload_n hx hb dX0_digest_31 rfl (lv_at hl 0 rfl) ?_
      refine w_getC (own := RX0) (v := .ref (q 1)) S in_w hK hP rfl 0 (by decide) fl_9 rfl rfl dX0_digest_32 ?_
      refine lv_iload_n hx hb dX0_digest_35 rfl (lv_at hl 2 rfl) ?_
      refine w_iald hx hb hK hP 1 0 rfl rfl (j := k) (v := inf k) (hI k (by omega)) (by omega) (by decide) dX0_digest_36 ?_
      refine lv_i2l hx hb dX0_digest_37 rfl ?_
      refine vp_callSl (W.runS (As := [.long (dgA inf out k (31 * 1873 + Int32.toInt64 (nI n))), .long (Int32.toInt64 (inf k))]) (rest := []) S (c_X0_mixed (a := dgA inf out k (31 * 1873 + Int32.toInt64 (nI n))) (b := Int32.toInt64 (inf k))) (va_cwS 2 hts gX0_digest_X0_mixed rfl rfl rfl hdX0_mixed ⟨Nat.le_of_ble_eq_true rfl, Nat.le_of_ble_eq_true rfl⟩) preS rfl rfl hl.1 rfl (lv_room (Nat.le_of_ble_eq_true rfl)) dX0_digest_38 ⟨Nat.zero_le _, Nat.zero_le _⟩) (fun r_24 er_24 => ?_)
      subst er_24
      refine lv_lstore_n (lv' := [(1, .long (31 * (dgA inf out k (31 * 1873 + Int32.toInt64 (nI n))) + (Int32.toInt64 (inf k)))), (0, .ref (q 0)), (3, .int (nI k))]) hx hb dX0_digest_41 rfl hl (by decide) rfl (fun ls hl => ?_)
      refine lv_lload_n hx hb dX0_digest_42 rfl (lv_at hl 0 rfl) ?_
      refine lv_aload_n hx hb dX0_digest_43 rfl (lv_at hl 1 rfl) ?_
      refine w_getC (own := RX0) (v := .ref (q 2)) S in_w hK hP rfl 1 (by decide) fl_13 rfl rfl dX0_digest_44 ?_
      refine lv_iload_n hx hb dX0_digest_47 rfl (lv_at hl 2 rfl) ?_
      refine w_iald hx hb hK hP 2 0 rfl rfl (j := k) (v := out k) (hO k (by omega)) (by omega) (by decide) dX0_digest_48 ?_
      refine lv_i2l hx hb dX0_digest_49 rfl ?_
      refine vp_callSl (W.runS (As := [.long (31 * (dgA inf out k (31 * 1873 + Int32.toInt64 (nI n))) + (Int32.toInt64 (inf k))), .long (Int32.toInt64 (out k))]) (rest := []) S (c_X0_mixed (a := 31 * (dgA inf out k (31 * 1873 + Int32.toInt64 (nI n))) + (Int32.toInt64 (inf k))) (b := Int32.toInt64 (out k))) (va_cwS 2 hts gX0_digest_X0_mixed rfl rfl rfl hdX0_mixed ⟨Nat.le_of_ble_eq_true rfl, Nat.le_of_ble_eq_true rfl⟩) preS rfl rfl hl.1 rfl (lv_room (Nat.le_of_ble_eq_true rfl)) dX0_digest_50 ⟨Nat.zero_le _, Nat.zero_le _⟩) (fun r_25 er_25 => ?_)
      subst er_25
      refine lv_lstore_n (lv' := [(1, .long (31 * (31 * (dgA inf out k (31 * 1873 + Int32.toInt64 (nI n))) + (Int32.toInt64 (inf k))) + (Int32.toInt64 (out k)))), (0, .ref (q 0)), (3, .int (nI k))]) hx hb dX0_digest_53 rfl hl (by decide) rfl (fun ls hl => ?_)
      refine lv_iinc (v := nI (k + 1)) (lv' := [(3, .int (nI (k + 1))), (1, .long (31 * (31 * (dgA inf out k (31 * 1873 + Int32.toInt64 (nI n))) + (Int32.toInt64 (inf k))) + (Int32.toInt64 (out k)))), (0, .ref (q 0))]) hx hb dX0_digest_54 hl (k := 2) rfl (by rw [show Int32.ofInt 1 = nI 1 from by decide, nI_add]) (by decide) rfl (fun ls hl => ?_)
      refine lv_goto (tgt := 22) hx hb dX0_digest_57 (by decide) ?_
      have eq_26 : dgA inf out (k + 1) (31 * 1873 + Int32.toInt64 (nI n)) = 31 * (31 * (dgA inf out k (31 * 1873 + Int32.toInt64 (nI n))) + (Int32.toInt64 (inf k))) + (Int32.toInt64 (out k)) := by rfl
      have hl : lv_has ls 5 [(3, .int (nI (k + 1))), (1, .long (dgA inf out (k + 1) (31 * 1873 + Int32.toInt64 (nI n)))), (0, .ref (q 0))] := by first | exact hl | (rw [eq_26]; exact hl)
      exact ih (k + 1) (by omega) _ _ hP hS ls (lv_sub hl [2, 1, 0] rfl)
  exact lp22 (n - 0) 0 (by omega) _ _ hP hS ls (lv_sub hl [2, 1, 0] rfl)
