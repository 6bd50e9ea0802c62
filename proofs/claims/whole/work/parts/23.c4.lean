abbrev rX0_resetEstimate : Room := { frames := 1, cells := 0, slots := 0, locals := 21 }
theorem hdX0_resetEstimate : yX0_resetEstimate.cls = RX0 ∧ yX0_resetEstimate.cls ≠ "java/lang/invoke/MethodHandle" ∧ yX0_resetEstimate.cls ≠ "java/lang/invoke/VarHandle" ∧ (parseMethodDescriptor yX0_resetEstimate.desc).map (fun d => d.parameters.length) = some 0 := by decide +kernel
set_option maxHeartbeats 4000000 in
set_option maxRecDepth 100000 in
theorem c_X0_resetEstimate {l : Launch} {D : va_G} {q : Nat → Nat} {cI cD : ClassId} {rC : Int32} {fi fo fw : Nat → Int32} {fe : Nat → UInt64} {ft fr fp fl : Nat → Int32} {ff : Nat → UInt64} {n : Nat} (hn : 3 ≤ n ∧ n ≤ 6) {w : Nat → Nat → Int32} (hW : ag2 n fw w)  (hq : qD q) : Met l yX0_resetEstimate wsX0_resetEstimate rX0_resetEstimate (va_Pc [.ref (q 0)] (wPre D (tys2 cI cD) (cW q cI cD (nI n) rC fi fo fw fe ft fr fp fl ff))) (va_Qv (fun (u : Nat → UInt64) => ag2 n u (lay w)) (fun u t => va_P D cls2 (cW q cI cD (nI n) (nI 0) fi fo fw u ft fr fp fl ff) t.heap) (qA q)) 0 0 (qA q) := by
  refine met_intro (cc := cX0_resetEstimate) (maxL := 3) (ret := none) (own := RX0) (by decide) rfl rfl (Nat.le_of_ble_eq_true rfl) ?_
  intro pp ee ss mm args below meth cd Q ls hQ S hr hlocks hv hB hl
  obtain ⟨hx, hb, hml, hown, hts⟩ := id S
  obtain ⟨hP, hK⟩ := hB
  have in_w : ∀ w ∈ wsX00, w ∈ wsX0_resetEstimate := by decide +kernel
  have fl_16 : Cond.fieldLink RX0 16 RX0 (TX0 2).2.1 (TX0 2).2.2.1 ∈ wsX0_resetEstimate := by decide +kernel
  have fl_19 : Cond.fieldLink RX0 19 RX0 (TX0 3).2.1 (TX0 3).2.2.1 ∈ wsX0_resetEstimate := by decide +kernel
  have fl_46 : Cond.fieldLink RX0 46 RX0 (TX0 9).2.1 (TX0 9).2.2.1 ∈ wsX0_resetEstimate := by decide +kernel
  have fl_95 : Cond.fieldLink RX0 95 RX0 (TX0 10).2.1 (TX0 10).2.2.1 ∈ wsX0_resetEstimate := by decide +kernel
  have hS : va_S (qA q) ss.heap ss.heap [] := va_S.rf
  generalize hHg : ss.heap = H at hP
  have hS : va_S (qA q) ss.heap H [] := by rw [← hHg]; exact hS
  suffices hgo : ∀ locs : List Loc, va_S (qA q) ss.heap H locs → W pp l ee rX0_resetEstimate ss mm args below meth cd H locs 0 0 Q (F0 mm 0 ls []) by
    first | exact hgo [] hS | (rw [hHg]; exact hgo [] hS)
  clear hS
  intro locs hS
  have hl : lv_has ls 3 [(0, .ref (q 0))] := hl
  obtain ⟨f0, hf0⟩ : ∃ f0 : Nat → Nat → UInt64, ag2 n fe f0 := ⟨fun i j => fe (6 * i + j), fun _ _ _ _ => rfl⟩
  refine lv_iconst (v := nI 0) hx hb dX0_resetEstimate_0 (by decide) ?_
  refine lv_istore_n (lv' := [(1, .int (nI 0)), (0, .ref (q 0))]) hx hb dX0_resetEstimate_1 rfl hl (by decide) rfl (fun ls hl => ?_)
  have lp2 : ∀ (j i : Nat), i + j = n → ∀ (fe : Nat → UInt64), ∀ (H : Heap) (locs : List Loc), ag2 n fe (rstO w n i f0) → va_P D cls2 (cW q cI cD (nI n) rC fi fo fw fe ft fr fp fl ff) H → va_S (qA q) ss.heap H locs → ∀ ls : Array Slot, lv_has ls 3 [(0, .ref (q 0)), (1, .int (nI i))] → W pp l ee rX0_resetEstimate ss mm args below meth cd H locs 0 0 Q (F0 mm 2 ls []) := by
    intro j
    induction j with
    | zero =>
      intro i hk_i fe H locs hg_fe hP hS ls hl
      have hke_i : n = i := by omega
      subst hke_i
      refine lv_iload_n hx hb dX0_resetEstimate_2 rfl (lv_at hl 1 rfl) ?_
      refine lv_aload_n hx hb dX0_resetEstimate_3 rfl (lv_at hl 0 rfl) ?_
      refine w_getC (own := RX0) (v := .int (nI n)) S in_w hK hP rfl 9 (by decide) fl_46 rfl rfl dX0_resetEstimate_4 ?_
      refine lv_icmp_ge (tgt := 53) hx hb dX0_resetEstimate_7 (by decide) (fun h7_0 => ?_) (fun h7_0 => absurd (Int32.le_refl _) h7_0)
      refine lv_aload_n hx hb dX0_resetEstimate_53 rfl (lv_at hl 0 rfl) ?_
      refine lv_iconst (v := nI 0) hx hb dX0_resetEstimate_54 (by decide) ?_
      refine w_putC (v := .int (nI 0)) (ty := .int) S in_w hK hP (wD_of hq rfl) hS rfl 10 (by decide) fl_95 rfl (by decide +kernel) rfl rfl (Nat.le_of_ble_eq_true rfl) rfl dX0_resetEstimate_55 (fun H locs hP hS => ?_)
      have hP : va_P D cls2 (cW q cI cD (nI n) (nI 0) fi fo fw fe ft fr fp fl ff) H := hP
      subst hQ
      exact W.vret hx hb hr (fun t ht hWm => ⟨⟨fe, rfl, (rst_ag hg_fe), (show va_P D cls2 _ t.heap from by rw [ht]; exact hP)⟩, hS.F ht⟩) hS.2.2 dX0_resetEstimate_58
    | succ j ih =>
      intro i hk_i fe H locs hg_fe hP hS ls hl
      have hlt_i : i < n := by omega
      refine lv_iload_n hx hb dX0_resetEstimate_2 rfl (lv_at hl 1 rfl) ?_
      refine lv_aload_n hx hb dX0_resetEstimate_3 rfl (lv_at hl 0 rfl) ?_
      refine w_getC (own := RX0) (v := .int (nI n)) S in_w hK hP rfl 9 (by decide) fl_46 rfl rfl dX0_resetEstimate_4 ?_
      refine lv_icmp_ge (tgt := 53) hx hb dX0_resetEstimate_7 (by decide) (fun h7_0 => absurd h7_0 (nI_ge hlt_i (by omega))) (fun h7_0 => ?_)
      refine lv_iconst (v := nI 0) hx hb dX0_resetEstimate_10 (by decide) ?_
      refine lv_istore_n (lv' := [(2, .int (nI 0)), (0, .ref (q 0)), (1, .int (nI i))]) hx hb dX0_resetEstimate_11 rfl hl (by decide) rfl (fun ls hl => ?_)
      have lp12 : ∀ (j k : Nat), k + j = n → ∀ (fe : Nat → UInt64), ∀ (H : Heap) (locs : List Loc), ag2 n fe (rstI w i k (rstO w n i f0)) → va_P D cls2 (cW q cI cD (nI n) rC fi fo fw fe ft fr fp fl ff) H → va_S (qA q) ss.heap H locs → ∀ ls : Array Slot, lv_has ls 3 [(0, .ref (q 0)), (1, .int (nI i)), (2, .int (nI k))] → W pp l ee rX0_resetEstimate ss mm args below meth cd H locs 0 0 Q (F0 mm 12 ls []) := by
        intro j
        induction j with
        | zero =>
          intro k hk_k fe H locs hg_fe hP hS ls hl
          have hke_k : n = k := by omega
          subst hke_k
          refine lv_iload_n hx hb dX0_resetEstimate_12 rfl (lv_at hl 2 rfl) ?_
          refine lv_aload_n hx hb dX0_resetEstimate_13 rfl (lv_at hl 0 rfl) ?_
          refine w_getC (own := RX0) (v := .int (nI n)) S in_w hK hP rfl 9 (by decide) fl_46 rfl rfl dX0_resetEstimate_14 ?_
          refine lv_icmp_ge (tgt := 47) hx hb dX0_resetEstimate_17 (by decide) (fun h17_1 => ?_) (fun h17_1 => absurd (Int32.le_refl _) h17_1)
          refine lv_iinc (v := nI (i + 1)) (lv' := [(1, .int (nI (i + 1))), (0, .ref (q 0)), (2, .int (nI n))]) hx hb dX0_resetEstimate_47 hl (k := 1) rfl (by rw [show Int32.ofInt 1 = nI 1 from by decide, nI_add]) (by decide) rfl (fun ls hl => ?_)
          refine lv_goto (tgt := 2) hx hb dX0_resetEstimate_50 (by decide) ?_
          have eq_1 : rstO w n (i + 1) f0 = rstI w i n (rstO w n i f0) := by rfl
          exact ih (i + 1) (by omega) _ _ _ (by rw [eq_1]; exact hg_fe) hP hS ls (lv_sub hl [1, 0] rfl)
        | succ j ih =>
          intro k hk_k fe H locs hg_fe hP hS ls hl
          have hlt_k : k < n := by omega
          refine lv_iload_n hx hb dX0_resetEstimate_12 rfl (lv_at hl 2 rfl) ?_
          refine lv_aload_n hx hb dX0_resetEstimate_13 rfl (lv_at hl 0 rfl) ?_
          refine w_getC (own := RX0) (v := .int (nI n)) S in_w hK hP rfl 9 (by decide) fl_46 rfl rfl dX0_resetEstimate_14 ?_
          refine lv_icmp_ge (tgt := 47) hx hb dX0_resetEstimate_17 (by decide) (fun h17_1 => absurd h17_1 (nI_ge hlt_k (by omega))) (fun h17_1 => ?_)
          refine lv_aload_n hx hb dX0_resetEstimate_20 rfl (lv_at hl 0 rfl) ?_
          refine w_getC (own := RX0) (v := .ref (q 4)) S in_w hK hP rfl 3 (by decide) fl_19 rfl rfl dX0_resetEstimate_21 ?_
          refine lv_iload_n hx hb dX0_resetEstimate_24 rfl (lv_at hl 1 rfl) ?_
          refine lv_iload_n hx hb dX0_resetEstimate_25 rfl (lv_at hl 2 rfl) ?_
          refine vp_callSi (W.runS (As := [.int (nI i), .int (nI k)]) (rest := [.ref (q 4)]) S (c_X0_turn (i := i) (k := k)) (va_cwS 2 hts gX0_resetEstimate_X0_turn rfl rfl rfl hdX0_turn ⟨Nat.le_of_ble_eq_true rfl, Nat.le_of_ble_eq_true rfl⟩) preS rfl rfl hl.1 rfl (lv_room (Nat.le_of_ble_eq_true rfl)) dX0_resetEstimate_26 ⟨Nat.zero_le _, Nat.zero_le _⟩) (fun r_2 er_2 => ?_)
          subst er_2
          refine lv_aload_n hx hb dX0_resetEstimate_29 rfl (lv_at hl 0 rfl) ?_
          refine w_getC (own := RX0) (v := .ref (q 3)) S in_w hK hP rfl 2 (by decide) fl_16 rfl rfl dX0_resetEstimate_30 ?_
          refine lv_iload_n hx hb dX0_resetEstimate_33 rfl (lv_at hl 1 rfl) ?_
          refine lv_iload_n hx hb dX0_resetEstimate_34 rfl (lv_at hl 2 rfl) ?_
          refine vp_callSi (W.runS (As := [.int (nI i), .int (nI k)]) (rest := [.ref (q 3), .int (nI (6 * i + k)), .ref (q 4)]) S (c_X0_turn (i := i) (k := k)) (va_cwS 2 hts gX0_resetEstimate_X0_turn rfl rfl rfl hdX0_turn ⟨Nat.le_of_ble_eq_true rfl, Nat.le_of_ble_eq_true rfl⟩) preS rfl rfl hl.1 rfl (lv_room (Nat.le_of_ble_eq_true rfl)) dX0_resetEstimate_35 ⟨Nat.zero_le _, Nat.zero_le _⟩) (fun r_3 er_3 => ?_)
          subst er_3
          refine w_iald hx hb hK hP 3 0 rfl rfl (j := 6 * i + k) (v := w i k) (hW i k (by omega) (by omega)) (by omega) (by decide) dX0_resetEstimate_38 ?_
          refine lv_i2d hx hb dX0_resetEstimate_39 ?_
          refine w_dast hx hb hK hP (wD_of hq rfl) hS 4 1 rfl rfl (j := 6 * i + k) (x := FP.i2d (w i k)) (by omega) (by decide) dX0_resetEstimate_40 (fun H locs hP _ hS => ?_)
          have hP : va_P D cls2 (cW q cI cD (nI n) rC fi fo fw (vf_upd fe (6 * i + k) (FP.i2d (w i k))) ft fr fp fl ff) H := hP
          have g_5 : ag2 n (vf_upd fe (6 * i + k) (FP.i2d (w i k))) (upd2 (rstI w i k (rstO w n i f0)) i k (FP.i2d (w i k))) := (ag2_updD hg_fe hn.2 (i := i) (j := k) (by omega) (FP.i2d (w i k)))
          generalize (vf_upd fe (6 * i + k) (FP.i2d (w i k))) = a_4 at hP g_5
          refine lv_iinc (v := nI (k + 1)) (lv' := [(2, .int (nI (k + 1))), (0, .ref (q 0)), (1, .int (nI i))]) hx hb dX0_resetEstimate_41 hl (k := 2) rfl (by rw [show Int32.ofInt 1 = nI 1 from by decide, nI_add]) (by decide) rfl (fun ls hl => ?_)
          refine lv_goto (tgt := 12) hx hb dX0_resetEstimate_44 (by decide) ?_
          have eq_6 : rstI w i (k + 1) (rstO w n i f0) = upd2 (rstI w i k (rstO w n i f0)) i k (FP.i2d (w i k)) := by rfl
          exact ih (k + 1) (by omega) _ _ _ (by rw [eq_6]; exact g_5) hP hS ls (lv_sub hl [1, 2, 0] rfl)
      exact lp12 (n - 0) 0 (by omega) _ _ _ hg_fe hP hS ls (lv_sub hl [1, 2, 0] rfl)
  exact lp2 (n - 0) 0 (by omega) _ _ _ hf0 hP hS ls (lv_sub hl [1, 0] rfl)
abbrev rX0_putWeight : Room := { frames := 1, cells := 0, slots := 0, locals := 21 }
theorem hdX0_putWeight : yX0_putWeight.cls = RX0 ∧ yX0_putWeight.cls ≠ "java/lang/invoke/MethodHandle" ∧ yX0_putWeight.cls ≠ "java/lang/invoke/VarHandle" ∧ (parseMethodDescriptor yX0_putWeight.desc).map (fun d => d.parameters.length) = some 3 := by decide +kernel
set_option maxHeartbeats 4000000 in
set_option maxRecDepth 100000 in
theorem c_X0_putWeight {l : Launch} {D : va_G} {q : Nat → Nat} {cI cD : ClassId} {rC : Int32} {fi fo fw : Nat → Int32} {fe : Nat → UInt64} {ft fr fp fl : Nat → Int32} {ff : Nat → UInt64} {n : Nat} (hn : 3 ≤ n ∧ n ≤ 6) {w : Nat → Nat → Int32} (hW : ag2 n fw w) {T : Nat → Nat} (hT : ∀ j : Nat, j < 6 → ft j = nI (T j) ∧ T j < 64) {i k : Nat} {x : Int32} (hi : i < n) (hk : k < n) (hq : qD q) : Met l yX0_putWeight wsX0_putWeight rX0_putWeight (va_Pc [.ref (q 0), .int (nI i), .int (nI k), .int x] (wPre D (tys2 cI cD) (cW q cI cD (nI n) rC fi fo fw fe ft fr fp fl ff))) (va_Qv (fun (u : (Nat → Int32) × (Nat → Int32)) => ag2 n u.1 (upd2 w i k x) ∧ ∃ T' : Nat → Nat, (∀ j : Nat, j < 6 → u.2 j = nI (T' j) ∧ T' j < 64) ∧ ∀ a b : Nat, b < 6 → (T' a).testBit b = if a = i ∧ b = k then decide (0 < x) else (T a).testBit b) (fun u t => va_P D cls2 (cW q cI cD (nI n) rC fi fo u.1 fe u.2 fr fp fl ff) t.heap) (qA q)) 0 0 (qA q) := by
  refine met_intro (cc := cX0_putWeight) (maxL := 4) (ret := none) (own := RX0) (by decide) rfl rfl (Nat.le_of_ble_eq_true rfl) ?_
  intro pp ee ss mm args below meth cd Q ls hQ S hr hlocks hv hB hl
  obtain ⟨hx, hb, hml, hown, hts⟩ := id S
  obtain ⟨hP, hK⟩ := hB
  have in_w : ∀ w ∈ wsX00, w ∈ wsX0_putWeight := by decide +kernel
  have fl_16 : Cond.fieldLink RX0 16 RX0 (TX0 2).2.1 (TX0 2).2.2.1 ∈ wsX0_putWeight := by decide +kernel
  have fl_23 : Cond.fieldLink RX0 23 RX0 (TX0 4).2.1 (TX0 4).2.2.1 ∈ wsX0_putWeight := by decide +kernel
  have hS : va_S (qA q) ss.heap ss.heap [] := va_S.rf
  generalize hHg : ss.heap = H at hP
  have hS : va_S (qA q) ss.heap H [] := by rw [← hHg]; exact hS
  suffices hgo : ∀ locs : List Loc, va_S (qA q) ss.heap H locs → W pp l ee rX0_putWeight ss mm args below meth cd H locs 0 0 Q (F0 mm 0 ls []) by
    first | exact hgo [] hS | (rw [hHg]; exact hgo [] hS)
  clear hS
  intro locs hS
  have hl : lv_has ls 4 [(0, .ref (q 0)), (1, .int (nI i)), (2, .int (nI k)), (3, .int x)] := hl
  have hTi := (hT i (by omega)).2
  refine lv_aload_n hx hb dX0_putWeight_0 rfl (lv_at hl 0 rfl) ?_
  refine w_getC (own := RX0) (v := .ref (q 3)) S in_w hK hP rfl 2 (by decide) fl_16 rfl rfl dX0_putWeight_1 ?_
  refine lv_iload_n hx hb dX0_putWeight_4 rfl (lv_at hl 1 rfl) ?_
  refine lv_iload_n hx hb dX0_putWeight_5 rfl (lv_at hl 2 rfl) ?_
  refine vp_callSi (W.runS (As := [.int (nI i), .int (nI k)]) (rest := [.ref (q 3)]) S (c_X0_turn (i := i) (k := k)) (va_cwS 2 hts gX0_putWeight_X0_turn rfl rfl rfl hdX0_turn ⟨Nat.le_of_ble_eq_true rfl, Nat.le_of_ble_eq_true rfl⟩) preS rfl rfl hl.1 rfl (lv_room (Nat.le_of_ble_eq_true rfl)) dX0_putWeight_6 ⟨Nat.zero_le _, Nat.zero_le _⟩) (fun r_1 er_1 => ?_)
  subst er_1
  refine lv_iload_n hx hb dX0_putWeight_9 rfl (lv_at hl 3 rfl) ?_
  refine w_iast hx hb hK hP (wD_of hq rfl) hS 3 0 rfl rfl (j := 6 * i + k) (x := x) (by omega) (by decide) dX0_putWeight_10 (fun H locs hP _ hS => ?_)
  have hP : va_P D cls2 (cW q cI cD (nI n) rC fi fo (upd fw (6 * i + k) x) fe ft fr fp fl ff) H := hP
  have g_3 : ag2 n (upd fw (6 * i + k) x) (upd2 w i k x) := (ag2_upd hW hn.2 (i := i) (j := k) (by omega) x)
  generalize (upd fw (6 * i + k) x) = a_2 at hP g_3
  refine lv_iload_n hx hb dX0_putWeight_11 rfl (lv_at hl 3 rfl) ?_
  refine lv_if_le (tgt := 30) hx hb dX0_putWeight_12 (by decide) (fun h12_0 => ?_) (fun h12_0 => ?_)
  · refine lv_aload_n hx hb dX0_putWeight_30 rfl (lv_at hl 0 rfl) ?_
    refine w_getC (own := RX0) (v := .ref (q 5)) S in_w hK hP rfl 4 (by decide) fl_23 rfl rfl dX0_putWeight_31 ?_
    refine lv_iload_n hx hb dX0_putWeight_34 rfl (lv_at hl 1 rfl) ?_
    refine lv_dup2_11 hx hb dX0_putWeight_35 rfl rfl ?_
    refine w_iald hx hb hK hP 5 0 rfl rfl (j := i) (v := nI (T i)) (hT i (by omega)).1 (by omega) (by decide) dX0_putWeight_36 ?_
    refine lv_iconst (v := nI 1) hx hb dX0_putWeight_37 (by decide) ?_
    refine lv_iload_n hx hb dX0_putWeight_38 rfl (lv_at hl 2 rfl) ?_
    refine lv_ishl hx hb dX0_putWeight_39 ?_
    rw [nI_shl (by omega)]
    refine lv_iconst (v := -1) hx hb dX0_putWeight_40 (by decide) ?_
    refine lv_ixor hx hb dX0_putWeight_41 ?_
    refine lv_iand hx hb dX0_putWeight_42 ?_
    rw [tg_clr ⟨T i, hTi⟩ ⟨k, by omega⟩]
    refine w_iast hx hb hK hP (wD_of hq rfl) hS 5 0 rfl rfl (j := i) (x := nI (T i &&& (63 ^^^ 2 ^ k))) (by omega) (by decide) dX0_putWeight_43 (fun H locs hP _ hS => ?_)
    have hP : va_P D cls2 (cW q cI cD (nI n) rC fi fo a_2 fe (upd ft i (nI (T i &&& (63 ^^^ 2 ^ k)))) fr fp fl ff) H := hP
    have hT_4 : ∀ j : Nat, j < 6 → (upd ft i (nI (T i &&& (63 ^^^ 2 ^ k)))) j = nI ((updT T i (T i &&& (63 ^^^ 2 ^ k))) j) ∧ (updT T i (T i &&& (63 ^^^ 2 ^ k))) j < 64 := ft_upd hT (i := i) (t := T i &&& (63 ^^^ 2 ^ k)) (Nat.lt_of_le_of_lt Nat.and_le_left hTi)
    subst hQ
    exact W.vret hx hb hr (fun t ht hWm => ⟨⟨(a_2, upd ft i (nI (T i &&& (63 ^^^ 2 ^ k)))), rfl, ⟨g_3, _, hT_4, (by rw [decide_eq_false (Int32.not_lt.mpr h12_0)]; exact tg_bitC hTi (by omega))⟩, (show va_P D cls2 _ t.heap from by rw [ht]; exact hP)⟩, hS.F ht⟩) hS.2.2 dX0_putWeight_44
  · refine lv_aload_n hx hb dX0_putWeight_15 rfl (lv_at hl 0 rfl) ?_
    refine w_getC (own := RX0) (v := .ref (q 5)) S in_w hK hP rfl 4 (by decide) fl_23 rfl rfl dX0_putWeight_16 ?_
    refine lv_iload_n hx hb dX0_putWeight_19 rfl (lv_at hl 1 rfl) ?_
    refine lv_dup2_11 hx hb dX0_putWeight_20 rfl rfl ?_
    refine w_iald hx hb hK hP 5 0 rfl rfl (j := i) (v := nI (T i)) (hT i (by omega)).1 (by omega) (by decide) dX0_putWeight_21 ?_
    refine lv_iconst (v := nI 1) hx hb dX0_putWeight_22 (by decide) ?_
    refine lv_iload_n hx hb dX0_putWeight_23 rfl (lv_at hl 2 rfl) ?_
    refine lv_ishl hx hb dX0_putWeight_24 ?_
    rw [nI_shl (by omega)]
    refine lv_ior hx hb dX0_putWeight_25 ?_
    rw [tg_or hTi (by omega)]
    refine w_iast hx hb hK hP (wD_of hq rfl) hS 5 0 rfl rfl (j := i) (x := nI (T i ||| 2 ^ k)) (by omega) (by decide) dX0_putWeight_26 (fun H locs hP _ hS => ?_)
    have hP : va_P D cls2 (cW q cI cD (nI n) rC fi fo a_2 fe (upd ft i (nI (T i ||| 2 ^ k))) fr fp fl ff) H := hP
    have hT_6 : ∀ j : Nat, j < 6 → (upd ft i (nI (T i ||| 2 ^ k))) j = nI ((updT T i (T i ||| 2 ^ k)) j) ∧ (updT T i (T i ||| 2 ^ k)) j < 64 := ft_upd hT (i := i) (t := T i ||| 2 ^ k) (tg_or_lt ⟨T i, hTi⟩ ⟨k, by omega⟩)
    refine lv_goto (tgt := 44) hx hb dX0_putWeight_27 (by decide) ?_
    subst hQ
    exact W.vret hx hb hr (fun t ht hWm => ⟨⟨(a_2, upd ft i (nI (T i ||| 2 ^ k))), rfl, ⟨g_3, _, hT_6, (by rw [decide_eq_true (Int32.not_le.mp h12_0)]; exact tg_bitO hTi (by omega))⟩, (show va_P D cls2 _ t.heap from by rw [ht]; exact hP)⟩, hS.F ht⟩) hS.2.2 dX0_putWeight_44
abbrev rX0_beginJunction : Room := { frames := 2, cells := 0, slots := 0, locals := 44 }
theorem hdX0_beginJunction : yX0_beginJunction.cls = RX0 ∧ yX0_beginJunction.cls ≠ "java/lang/invoke/MethodHandle" ∧ yX0_beginJunction.cls ≠ "java/lang/invoke/VarHandle" ∧ (parseMethodDescriptor yX0_beginJunction.desc).map (fun d => d.parameters.length) = some 1 := by decide +kernel
set_option maxHeartbeats 4000000 in
set_option maxRecDepth 100000 in
theorem c_X0_beginJunction {l : Launch} {D : va_G} {q : Nat → Nat} {cI cD : ClassId} {rC : Int32} {fi fo fw : Nat → Int32} {fe : Nat → UInt64} {ft fr fp fl : Nat → Int32} {ff : Nat → UInt64} {n : Nat} {n0 : Nat} (hn : 3 ≤ n ∧ n ≤ 6) {T : Nat → Nat} (hT : ∀ j : Nat, j < 6 → ft j = nI (T j) ∧ T j < 64)  (hq : qD q) : Met l yX0_beginJunction wsX0_beginJunction rX0_beginJunction (va_Pc [.ref (q 0), .int (nI n)] (wPre D (tys2 cI cD) (cW q cI cD (nI n0) rC fi fo fw fe ft fr fp fl ff))) (va_Qv (fun (u : (Nat → Int32) × (Nat → Int32) × (Nat → Int32) × (Nat → UInt64) × (Nat → Int32)) => ag1 n u.1 (fun _ => nI 0) ∧ ag1 n u.2.1 (fun _ => nI 0) ∧ ag2 n u.2.2.1 w0 ∧ ag2 n u.2.2.2.1 (lay w0) ∧ ∃ T' : Nat → Nat, (∀ j : Nat, j < 6 → u.2.2.2.2 j = nI (T' j) ∧ T' j < 64) ∧ ∀ a b : Nat, a < n → b < n → (T' a).testBit b = decide (0 < w0 a b)) (fun u t => va_P D cls2 (cW q cI cD (nI n) (nI 0) u.1 u.2.1 u.2.2.1 u.2.2.2.1 u.2.2.2.2 fr fp fl ff) t.heap) (qA q)) 0 0 (qA q) := by
  refine met_intro (cc := cX0_beginJunction) (maxL := 4) (ret := none) (own := RX0) (by decide) rfl rfl (Nat.le_of_ble_eq_true rfl) ?_
  intro pp ee ss mm args below meth cd Q ls hQ S hr hlocks hv hB hl
  obtain ⟨hx, hb, hml, hown, hts⟩ := id S
  obtain ⟨hP, hK⟩ := hB
  have in_w : ∀ w ∈ wsX00, w ∈ wsX0_beginJunction := by decide +kernel
  have fl_9 : Cond.fieldLink RX0 9 RX0 (TX0 0).2.1 (TX0 0).2.2.1 ∈ wsX0_beginJunction := by decide +kernel
  have fl_13 : Cond.fieldLink RX0 13 RX0 (TX0 1).2.1 (TX0 1).2.2.1 ∈ wsX0_beginJunction := by decide +kernel
  have fl_23 : Cond.fieldLink RX0 23 RX0 (TX0 4).2.1 (TX0 4).2.2.1 ∈ wsX0_beginJunction := by decide +kernel
  have fl_46 : Cond.fieldLink RX0 46 RX0 (TX0 9).2.1 (TX0 9).2.2.1 ∈ wsX0_beginJunction := by decide +kernel
  have hS : va_S (qA q) ss.heap ss.heap [] := va_S.rf
  generalize hHg : ss.heap = H at hP
  have hS : va_S (qA q) ss.heap H [] := by rw [← hHg]; exact hS
  suffices hgo : ∀ locs : List Loc, va_S (qA q) ss.heap H locs → W pp l ee rX0_beginJunction ss mm args below meth cd H locs 0 0 Q (F0 mm 0 ls []) by
    first | exact hgo [] hS | (rw [hHg]; exact hgo [] hS)
  clear hS
  intro locs hS
  have hl : lv_has ls 4 [(0, .ref (q 0)), (1, .int (nI n))] := hl
  obtain ⟨z1, hz1⟩ : ∃ z1 : Nat → Int32, ag1 n fi z1 := ⟨fi, fun _ _ => rfl⟩
  obtain ⟨z2, hz2⟩ : ∃ z2 : Nat → Int32, ag1 n fo z2 := ⟨fo, fun _ _ => rfl⟩
  obtain ⟨z3, hz3⟩ : ∃ z3 : Nat → Nat → Int32, ag2 n fw z3 := ⟨fun i j => fw (6 * i + j), fun _ _ _ _ => rfl⟩
  refine lv_aload_n hx hb dX0_beginJunction_0 rfl (lv_at hl 0 rfl) ?_
  refine lv_iload_n hx hb dX0_beginJunction_1 rfl (lv_at hl 1 rfl) ?_
  refine w_putC (v := .int (nI n)) (ty := .int) S in_w hK hP (wD_of hq rfl) hS rfl 9 (by decide) fl_46 rfl (by decide +kernel) rfl rfl (Nat.le_of_ble_eq_true rfl) rfl dX0_beginJunction_2 (fun H locs hP hS => ?_)
  have hP : va_P D cls2 (cW q cI cD (nI n) rC fi fo fw fe ft fr fp fl ff) H := hP
  refine lv_iconst (v := nI 0) hx hb dX0_beginJunction_5 (by decide) ?_
  refine lv_istore_n (lv' := [(2, .int (nI 0)), (0, .ref (q 0)), (1, .int (nI n))]) hx hb dX0_beginJunction_6 rfl hl (by decide) rfl (fun ls hl => ?_)
  have lp7 : ∀ (j i : Nat), i + j = n → ∀ (T : Nat → Nat), ∀ (fi : Nat → Int32), ∀ (fo : Nat → Int32), ∀ (fw : Nat → Int32), ∀ (ft : Nat → Int32), ∀ (H : Heap) (locs : List Loc), ag1 n fi (zrO i z1) → ag1 n fo (zrO i z2) → ag2 n fw (bgO n i z3) → (∀ j : Nat, j < 6 → ft j = nI (T j) ∧ T j < 64) → (∀ a b : Nat, a < i → b < n → (T a).testBit b = decide (0 < w0 a b)) → va_P D cls2 (cW q cI cD (nI n) rC fi fo fw fe ft fr fp fl ff) H → va_S (qA q) ss.heap H locs → ∀ ls : Array Slot, lv_has ls 4 [(0, .ref (q 0)), (1, .int (nI n)), (2, .int (nI i))] → W pp l ee rX0_beginJunction ss mm args below meth cd H locs 0 0 Q (F0 mm 7 ls []) := by
    intro j
    induction j with
    | zero =>
      intro i hk_i T fi fo fw ft H locs hg_fi hg_fo hg_fw hT hT2 hP hS ls hl
      have hke_i : n = i := by omega
      subst hke_i
      refine lv_iload_n hx hb dX0_beginJunction_7 rfl (lv_at hl 2 rfl) ?_
      refine lv_aload_n hx hb dX0_beginJunction_8 rfl (lv_at hl 0 rfl) ?_
      refine w_getC (own := RX0) (v := .int (nI n)) S in_w hK hP rfl 9 (by decide) fl_46 rfl rfl dX0_beginJunction_9 ?_
      refine lv_icmp_ge (tgt := 74) hx hb dX0_beginJunction_12 (by decide) (fun h12_0 => ?_) (fun h12_0 => absurd (Int32.le_refl _) h12_0)
      refine lv_aload_n hx hb dX0_beginJunction_74 rfl (lv_at hl 0 rfl) ?_
      refine va_callv (va_runV (As := []) (rest := []) S (c_X0_resetEstimate hn hg_fw hq) (cwV 0 hts gX0_beginJunction_X0_resetEstimate rfl rfl rfl hdX0_resetEstimate ⟨Nat.le_of_ble_eq_true rfl, Nat.le_of_ble_eq_true rfl⟩) (preV hK hP rfl rfl) rfl rfl hl.1 rfl (lv_room (Nat.le_of_ble_eq_true rfl)) dX0_beginJunction_75 ⟨Nat.zero_le _, Nat.zero_le _⟩) hS (fun _ _ h => h) (fun _ h => h) (fun u_2 t H locs ht hvm hw_3 hB hz1 hk1 hS => ?_)
      replace hB : va_P D cls2 _ t.heap := hB
      rw [ht] at hB
      have hP : va_P D cls2 (cW q cI cD (nI n) (nI 0) fi fo fw u_2 ft fr fp fl ff) H := hB
      subst hQ
      exact W.vret hx hb hr (fun t ht hWm => ⟨⟨(fi, fo, fw, u_2, ft), rfl, ⟨zr_ag hg_fi, zr_ag hg_fo, bg_ag hn.2 hg_fw, fun i j hi hj => (hw_3 i j hi hj).trans (congrArg FP.i2d (by rw [← hg_fw i j hi hj, bg_ag hn.2 hg_fw i j hi hj])), T, hT, hT2⟩, (show va_P D cls2 _ t.heap from by rw [ht]; exact hP)⟩, hS.F ht⟩) hS.2.2 dX0_beginJunction_78
    | succ j ih =>
      intro i hk_i T fi fo fw ft H locs hg_fi hg_fo hg_fw hT hT2 hP hS ls hl
      have hlt_i : i < n := by omega
      refine lv_iload_n hx hb dX0_beginJunction_7 rfl (lv_at hl 2 rfl) ?_
      refine lv_aload_n hx hb dX0_beginJunction_8 rfl (lv_at hl 0 rfl) ?_
      refine w_getC (own := RX0) (v := .int (nI n)) S in_w hK hP rfl 9 (by decide) fl_46 rfl rfl dX0_beginJunction_9 ?_
      refine lv_icmp_ge (tgt := 74) hx hb dX0_beginJunction_12 (by decide) (fun h12_0 => absurd h12_0 (nI_ge hlt_i (by omega))) (fun h12_0 => ?_)
      refine lv_aload_n hx hb dX0_beginJunction_15 rfl (lv_at hl 0 rfl) ?_
      refine w_getC (own := RX0) (v := .ref (q 1)) S in_w hK hP rfl 0 (by decide) fl_9 rfl rfl dX0_beginJunction_16 ?_
      refine lv_iload_n hx hb dX0_beginJunction_19 rfl (lv_at hl 2 rfl) ?_
      refine lv_iconst (v := nI 0) hx hb dX0_beginJunction_20 (by decide) ?_
      refine w_iast hx hb hK hP (wD_of hq rfl) hS 1 0 rfl rfl (j := i) (x := nI 0) (by omega) (by decide) dX0_beginJunction_21 (fun H locs hP _ hS => ?_)
      have hP : va_P D cls2 (cW q cI cD (nI n) rC (upd fi i (nI 0)) fo fw fe ft fr fp fl ff) H := hP
      have g_5 : ag1 n (upd fi i (nI 0)) (upd (zrO i z1) i (nI 0)) := (ag1_upd hg_fi i (nI 0))
      generalize (upd fi i (nI 0)) = a_4 at hP g_5
      refine lv_aload_n hx hb dX0_beginJunction_22 rfl (lv_at hl 0 rfl) ?_
      refine w_getC (own := RX0) (v := .ref (q 2)) S in_w hK hP rfl 1 (by decide) fl_13 rfl rfl dX0_beginJunction_23 ?_
      refine lv_iload_n hx hb dX0_beginJunction_26 rfl (lv_at hl 2 rfl) ?_
      refine lv_iconst (v := nI 0) hx hb dX0_beginJunction_27 (by decide) ?_
      refine w_iast hx hb hK hP (wD_of hq rfl) hS 2 0 rfl rfl (j := i) (x := nI 0) (by omega) (by decide) dX0_beginJunction_28 (fun H locs hP _ hS => ?_)
      have hP : va_P D cls2 (cW q cI cD (nI n) rC a_4 (upd fo i (nI 0)) fw fe ft fr fp fl ff) H := hP
      have g_7 : ag1 n (upd fo i (nI 0)) (upd (zrO i z2) i (nI 0)) := (ag1_upd hg_fo i (nI 0))
      generalize (upd fo i (nI 0)) = a_6 at hP g_7
      refine lv_aload_n hx hb dX0_beginJunction_29 rfl (lv_at hl 0 rfl) ?_
      refine w_getC (own := RX0) (v := .ref (q 5)) S in_w hK hP rfl 4 (by decide) fl_23 rfl rfl dX0_beginJunction_30 ?_
      refine lv_iload_n hx hb dX0_beginJunction_33 rfl (lv_at hl 2 rfl) ?_
      refine lv_iconst (v := nI 0) hx hb dX0_beginJunction_34 (by decide) ?_
      refine w_iast hx hb hK hP (wD_of hq rfl) hS 5 0 rfl rfl (j := i) (x := nI 0) (by omega) (by decide) dX0_beginJunction_35 (fun H locs hP _ hS => ?_)
      have hP : va_P D cls2 (cW q cI cD (nI n) rC a_4 a_6 fw fe (upd ft i (nI 0)) fr fp fl ff) H := hP
      have hT_8 : ∀ j : Nat, j < 6 → (upd ft i (nI 0)) j = nI ((updT T i 0) j) ∧ (updT T i 0) j < 64 := ft_upd hT (i := i) (t := 0) (by decide)
      refine lv_iconst (v := nI 0) hx hb dX0_beginJunction_36 (by decide) ?_
      refine lv_istore_n (lv' := [(3, .int (nI 0)), (0, .ref (q 0)), (1, .int (nI n)), (2, .int (nI i))]) hx hb dX0_beginJunction_37 rfl hl (by decide) rfl (fun ls hl => ?_)
      have lp38 : ∀ (j k : Nat), k + j = n → ∀ (T : Nat → Nat), ∀ (fw : Nat → Int32), ∀ (ft : Nat → Int32), ∀ (H : Heap) (locs : List Loc), ag2 n fw (bgI i k (bgO n i z3)) → (∀ j : Nat, j < 6 → ft j = nI (T j) ∧ T j < 64) → (∀ a b : Nat, b < n → (a < i ∨ (a = i ∧ b < k)) → (T a).testBit b = decide (0 < w0 a b)) → va_P D cls2 (cW q cI cD (nI n) rC a_4 a_6 fw fe ft fr fp fl ff) H → va_S (qA q) ss.heap H locs → ∀ ls : Array Slot, lv_has ls 4 [(0, .ref (q 0)), (1, .int (nI n)), (2, .int (nI i)), (3, .int (nI k))] → W pp l ee rX0_beginJunction ss mm args below meth cd H locs 0 0 Q (F0 mm 38 ls []) := by
        intro j
        induction j with
        | zero =>
          intro k hk_k T fw ft H locs hg_fw hT hT2 hP hS ls hl
          have hke_k : n = k := by omega
          subst hke_k
          refine lv_iload_n hx hb dX0_beginJunction_38 rfl (lv_at hl 3 rfl) ?_
          refine lv_aload_n hx hb dX0_beginJunction_39 rfl (lv_at hl 0 rfl) ?_
          refine w_getC (own := RX0) (v := .int (nI n)) S in_w hK hP rfl 9 (by decide) fl_46 rfl rfl dX0_beginJunction_40 ?_
          refine lv_icmp_ge (tgt := 68) hx hb dX0_beginJunction_43 (by decide) (fun h43_1 => ?_) (fun h43_1 => absurd (Int32.le_refl _) h43_1)
          refine lv_iinc (v := nI (i + 1)) (lv' := [(2, .int (nI (i + 1))), (0, .ref (q 0)), (1, .int (nI n)), (3, .int (nI n))]) hx hb dX0_beginJunction_68 hl (k := 2) rfl (by rw [show Int32.ofInt 1 = nI 1 from by decide, nI_add]) (by decide) rfl (fun ls hl => ?_)
          refine lv_goto (tgt := 7) hx hb dX0_beginJunction_71 (by decide) ?_
          have eq_10 : zrO (i + 1) z1 = upd (zrO i z1) i (nI 0) := by rfl
          have eq_11 : zrO (i + 1) z2 = upd (zrO i z2) i (nI 0) := by rfl
          have eq_12 : bgO n (i + 1) z3 = bgI i n (bgO n i z3) := by rfl
          exact ih (i + 1) (by omega) _ _ _ _ _ _ _ (by rw [eq_10]; exact g_5) (by rw [eq_11]; exact g_7) (by rw [eq_12]; exact hg_fw) hT (fun a b h1 h2 => hT2 a b h2 (by omega)) hP hS ls (lv_sub hl [1, 2, 0] rfl)
        | succ j ih =>
          intro k hk_k T fw ft H locs hg_fw hT hT2 hP hS ls hl
          have hlt_k : k < n := by omega
          refine lv_iload_n hx hb dX0_beginJunction_38 rfl (lv_at hl 3 rfl) ?_
          refine lv_aload_n hx hb dX0_beginJunction_39 rfl (lv_at hl 0 rfl) ?_
          refine w_getC (own := RX0) (v := .int (nI n)) S in_w hK hP rfl 9 (by decide) fl_46 rfl rfl dX0_beginJunction_40 ?_
          refine lv_icmp_ge (tgt := 68) hx hb dX0_beginJunction_43 (by decide) (fun h43_1 => absurd h43_1 (nI_ge hlt_k (by omega))) (fun h43_1 => ?_)
          refine lv_aload_n hx hb dX0_beginJunction_46 rfl (lv_at hl 0 rfl) ?_
          refine lv_iload_n hx hb dX0_beginJunction_47 rfl (lv_at hl 2 rfl) ?_
          refine lv_iload_n hx hb dX0_beginJunction_48 rfl (lv_at hl 3 rfl) ?_
          refine lv_iload_n hx hb dX0_beginJunction_49 rfl (lv_at hl 2 rfl) ?_
          refine lv_iload_n hx hb dX0_beginJunction_50 rfl (lv_at hl 3 rfl) ?_
          refine lv_icmp_ne (tgt := 58) hx hb dX0_beginJunction_51 (by decide) (fun h51_2 => ?_) (fun h51_2 => ?_)
          · refine lv_iconst (v := nI 1) hx hb dX0_beginJunction_58 (by decide) ?_
            refine va_callv (va_runV (As := [.int (nI i), .int (nI k), .int (nI 1)]) (rest := []) S (c_X0_putWeight hn hg_fw hT (i := i) (k := k) (x := nI 1) (by omega) (by omega) hq) (cwV 3 hts gX0_beginJunction_X0_putWeight rfl rfl rfl hdX0_putWeight ⟨Nat.le_of_ble_eq_true rfl, Nat.le_of_ble_eq_true rfl⟩) (preV hK hP rfl rfl) rfl rfl hl.1 rfl (lv_room (Nat.le_of_ble_eq_true rfl)) dX0_beginJunction_59 ⟨Nat.zero_le _, Nat.zero_le _⟩) hS (fun _ _ h => h) (fun _ h => h) (fun u_14 t H locs ht hvm hw_15 hB hz1 hk1 hS => ?_)
            replace hB : va_P D cls2 _ t.heap := hB
            rw [ht] at hB
            obtain ⟨hg_19, T_16, hT_17, hB_18⟩ := hw_15
            have hP : va_P D cls2 (cW q cI cD (nI n) rC a_4 a_6 u_14.1 fe u_14.2 fr fp fl ff) H := hB
            refine lv_iinc (v := nI (k + 1)) (lv' := [(3, .int (nI (k + 1))), (0, .ref (q 0)), (1, .int (nI n)), (2, .int (nI i))]) hx hb dX0_beginJunction_62 hl (k := 3) rfl (by rw [show Int32.ofInt 1 = nI 1 from by decide, nI_add]) (by decide) rfl (fun ls hl => ?_)
            refine lv_goto (tgt := 38) hx hb dX0_beginJunction_65 (by decide) ?_
            have eq_20 : bgI i (k + 1) (bgO n i z3) = upd2 (bgI i k (bgO n i z3)) i k (nI 1) := by (show upd2 (bgI i k (bgO n i z3)) i k (dg i k) = _; unfold dg; simp only [h51_2, reduceIte])
            exact ih (k + 1) (by omega) _ _ _ _ _ (by rw [eq_20]; exact hg_19) hT_17 (fun a b h1 h2 => bg_step (by omega) h1 h2 hT2 hB_18 (by unfold dg; simp only [h51_2, reduceIte])) hP hS ls (lv_sub hl [1, 2, 3, 0] rfl)
          · refine lv_iconst (v := nI 0) hx hb dX0_beginJunction_54 (by decide) ?_
            refine lv_goto (tgt := 59) hx hb dX0_beginJunction_55 (by decide) ?_
            refine va_callv (va_runV (As := [.int (nI i), .int (nI k), .int (nI 0)]) (rest := []) S (c_X0_putWeight hn hg_fw hT (i := i) (k := k) (x := nI 0) (by omega) (by omega) hq) (cwV 3 hts gX0_beginJunction_X0_putWeight rfl rfl rfl hdX0_putWeight ⟨Nat.le_of_ble_eq_true rfl, Nat.le_of_ble_eq_true rfl⟩) (preV hK hP rfl rfl) rfl rfl hl.1 rfl (lv_room (Nat.le_of_ble_eq_true rfl)) dX0_beginJunction_59 ⟨Nat.zero_le _, Nat.zero_le _⟩) hS (fun _ _ h => h) (fun _ h => h) (fun u_22 t H locs ht hvm hw_23 hB hz1 hk1 hS => ?_)
            replace hB : va_P D cls2 _ t.heap := hB
            rw [ht] at hB
            obtain ⟨hg_27, T_24, hT_25, hB_26⟩ := hw_23
            have hP : va_P D cls2 (cW q cI cD (nI n) rC a_4 a_6 u_22.1 fe u_22.2 fr fp fl ff) H := hB
            refine lv_iinc (v := nI (k + 1)) (lv' := [(3, .int (nI (k + 1))), (0, .ref (q 0)), (1, .int (nI n)), (2, .int (nI i))]) hx hb dX0_beginJunction_62 hl (k := 3) rfl (by rw [show Int32.ofInt 1 = nI 1 from by decide, nI_add]) (by decide) rfl (fun ls hl => ?_)
            refine lv_goto (tgt := 38) hx hb dX0_beginJunction_65 (by decide) ?_
            have eq_28 : bgI i (k + 1) (bgO n i z3) = upd2 (bgI i k (bgO n i z3)) i k (nI 0) := by (show upd2 (bgI i k (bgO n i z3)) i k (dg i k) = _; unfold dg; simp only [h51_2, reduceIte])
            exact ih (k + 1) (by omega) _ _ _ _ _ (by rw [eq_28]; exact hg_27) hT_25 (fun a b h1 h2 => bg_step (by omega) h1 h2 hT2 hB_26 (by unfold dg; simp only [h51_2, reduceIte])) hP hS ls (lv_sub hl [1, 2, 3, 0] rfl)
      exact lp38 (n - 0) 0 (by omega) _ _ _ _ _ hg_fw hT_8 (fun a b h1 h2 => by rw [show updT T i 0 a = T a from if_neg (by omega)]; exact hT2 a b (by omega) h1) hP hS ls (lv_sub hl [1, 2, 3, 0] rfl)
  exact lp7 (n - 0) 0 (by omega) _ _ _ _ _ _ _ hz1 hz2 hz3 hT (fun a b h => absurd h (Nat.not_lt_zero a)) hP hS ls (lv_sub hl [1, 2, 0] rfl)
