theorem dgO_suc (w : Nat → Nat → Int32) (e : Nat → Nat → UInt64) (rt pt : Nat → Nat → Int32) (n k : Nat) (h : Int64) : dgO w e rt pt n (k + 1) h = dgI w e rt pt k n (dgO w e rt pt n k h) := rfl
theorem dgI_zero (w : Nat → Nat → Int32) (e : Nat → Nat → UInt64) (rt pt : Nat → Nat → Int32) (i : Nat) (h : Int64) : dgI w e rt pt i 0 h = h := rfl
theorem dgO_zero (w : Nat → Nat → Int32) (e : Nat → Nat → UInt64) (rt pt : Nat → Nat → Int32) (n : Nat) (h : Int64) : dgO w e rt pt n 0 h = h := rfl
abbrev rX1_leftBy : Room := { frames := 0, cells := 0, slots := 0, locals := 0 }
theorem hdX1_leftBy : yX1_leftBy.cls = RX1 ∧ yX1_leftBy.cls ≠ "java/lang/invoke/MethodHandle" ∧ yX1_leftBy.cls ≠ "java/lang/invoke/VarHandle" ∧ (parseMethodDescriptor yX1_leftBy.desc).map (fun d => d.parameters.length) = some 2 := by decide +kernel
set_option maxHeartbeats 4000000 in
set_option maxRecDepth 100000 in
theorem c_X1_leftBy {l : Launch} {D : va_G} {q : Nat → Nat} {cI cD : ClassId} {th rC : Int32} {hh : Int64} {fi fo fw : Nat → Int32} {fe : Nat → UInt64} {fr : Nat → Int32} {ff : Nat → UInt64} {fp fl fc : Nat → Int32} {n : Nat} (hn : 3 ≤ n ∧ n ≤ 6) {w : Nat → Nat → Int32} (hW : ag2 n fw w) {ol : Nat → Int32} (hL : ag1 n fl ol) {oc : Nat → Int32} (hC : ag1 n fc oc) {s j0 : Nat} (hs : s < 64) (hj0 : j0 < n) : Met l yX1_leftBy wsX1_leftBy rX1_leftBy (va_Pc [.ref (q 0), .int (nI s), .int (nI j0)] (wPre D (tys2 cI cD) (mW q cI cD th (nI n) rC hh fi fo fw fe fr ff fp fl fc))) (vp_Si (fun r => r = lfB n (opn w) ol oc s j0)) 0 0 (fun _ => False) := by
  refine met_intro (cc := cX1_leftBy) (maxL := 8) (ret := (some .int)) (own := RX1) (by decide) rfl rfl (Nat.le_of_ble_eq_true rfl) ?_
  intro pp ee ss mm args below meth cd Q ls hQ S hr hlocks hv hB hl
  obtain ⟨hx, hb, hml, hown, hts⟩ := id S
  obtain ⟨hP, hK⟩ := hB
  have in_w : ∀ w ∈ wsX10, w ∈ wsX1_leftBy := by decide +kernel
  have fl_7 : Cond.fieldLink RX1 7 RX1 (TX1 1).2.1 (TX1 1).2.2.1 ∈ wsX1_leftBy := by decide +kernel
  have fl_20 : Cond.fieldLink RX1 20 RX1 (TX1 4).2.1 (TX1 4).2.2.1 ∈ wsX1_leftBy := by decide +kernel
  have fl_36 : Cond.fieldLink RX1 36 RX1 (TX1 10).2.1 (TX1 10).2.2.1 ∈ wsX1_leftBy := by decide +kernel
  have fl_39 : Cond.fieldLink RX1 39 RX1 (TX1 11).2.1 (TX1 11).2.2.1 ∈ wsX1_leftBy := by decide +kernel
  have hl : lv_has ls 8 [(0, .ref (q 0)), (1, .int (nI s)), (2, .int (nI j0))] := hl
  refine lv_iconst (v := nI 0) hx hb dX1_leftBy_0 (by decide) ?_
  refine lv_istore_n (lv' := [(3, .int (nI 0)), (0, .ref (q 0)), (1, .int (nI s)), (2, .int (nI j0))]) hx hb dX1_leftBy_1 rfl hl (by decide) rfl (fun ls hl => ?_)
  refine lv_iconst (v := nI 0) hx hb dX1_leftBy_2 (by decide) ?_
  refine lv_istore (lv' := [(4, .int (nI 0)), (3, .int (nI 0)), (0, .ref (q 0)), (1, .int (nI s)), (2, .int (nI j0))]) hx hb dX1_leftBy_3 hl (by decide) rfl (fun ls hl => ?_)
  refine lv_iconst (v := nI 0) hx hb dX1_leftBy_5 (by decide) ?_
  refine lv_istore (lv' := [(5, .int (nI 0)), (4, .int (nI 0)), (3, .int (nI 0)), (0, .ref (q 0)), (1, .int (nI s)), (2, .int (nI j0))]) hx hb dX1_leftBy_6 hl (by decide) rfl (fun ls hl => ?_)
  have lp8 : ∀ (j b : Nat), b + j = n → ∀ ls : Array Slot, lv_has ls 8 [(0, .ref (q 0)), (1, .int (nI s)), (2, .int (nI j0)), (3, .int (bI (lfD n (opn w) s j0 b))), (4, .int (lfL n (opn w) oc s b)), (5, .int (nI b))] → W pp l ee rX1_leftBy ss mm args below meth cd ss.heap [] 0 0 Q (F0 mm 8 ls []) := by
    intro j
    induction j with
    | zero =>
      intro b hk_b ls hl
      have hke_b : n = b := by omega
      subst hke_b
      refine lv_iload hx hb dX1_leftBy_8 (lv_at hl 5 rfl) ?_
      refine lv_aload_n hx hb dX1_leftBy_10 rfl (lv_at hl 0 rfl) ?_
      refine w_getM (own := RX1) (v := .int (nI n)) S in_w hK hP rfl 1 (by decide) fl_7 rfl rfl dX1_leftBy_11 ?_
      refine lv_icmp_ge (tgt := 124) hx hb dX1_leftBy_14 (by decide) (fun h14_0 => ?_) (fun h14_0 => absurd (Int32.le_refl _) h14_0)
      refine lv_iconst (v := nI 0) hx hb dX1_leftBy_124 (by decide) ?_
      refine lv_istore (lv' := [(5, .int (nI 0)), (0, .ref (q 0)), (1, .int (nI s)), (2, .int (nI j0)), (3, .int (bI (lfD n (opn w) s j0 n))), (4, .int (lfL n (opn w) oc s n))]) hx hb dX1_leftBy_125 hl (by decide) rfl (fun ls hl => ?_)
      have lp127 : ∀ (j a : Nat), a + j = n → ∀ ls : Array Slot, lv_has ls 8 [(0, .ref (q 0)), (1, .int (nI s)), (2, .int (nI j0)), (3, .int (bI (lfD n (opn w) s j0 n))), (4, .int (lfR n (opn w) ol oc s a)), (5, .int (nI a))] → W pp l ee rX1_leftBy ss mm args below meth cd ss.heap [] 0 0 Q (F0 mm 127 ls []) := by
        intro j
        induction j with
        | zero =>
          intro a hk_a ls hl
          have hke_a : n = a := by omega
          subst hke_a
          refine lv_iload hx hb dX1_leftBy_127 (lv_at hl 5 rfl) ?_
          refine lv_aload_n hx hb dX1_leftBy_129 rfl (lv_at hl 0 rfl) ?_
          refine w_getM (own := RX1) (v := .int (nI n)) S in_w hK hP rfl 1 (by decide) fl_7 rfl rfl dX1_leftBy_130 ?_
          refine lv_icmp_ge (tgt := 168) hx hb dX1_leftBy_133 (by decide) (fun h133_1 => ?_) (fun h133_1 => absurd (Int32.le_refl _) h133_1)
          refine lv_iload_n hx hb dX1_leftBy_168 rfl (lv_at hl 3 rfl) ?_
          refine w_ifBeq (tgt := 177) hx hb dX1_leftBy_169 (by decide) (fun h169_2 => ?_) (fun h169_2 => ?_)
          · refine lv_sipush (v := nI 9999) hx hb dX1_leftBy_177 (by decide) ?_
            subst hQ
            exact W.iret hx hb hr (fun t ht hWm => ⟨_, rfl, (by unfold lfB; rw [if_neg (by rw [h169_2]; decide)]), ht⟩) (fun q h => absurd h List.not_mem_nil) dX1_leftBy_180
          · refine lv_iload hx hb dX1_leftBy_172 (lv_at hl 4 rfl) ?_
            refine lv_goto (tgt := 180) hx hb dX1_leftBy_174 (by decide) ?_
            subst hQ
            exact W.iret hx hb hr (fun t ht hWm => ⟨_, rfl, (by unfold lfB; rw [if_pos h169_2]), ht⟩) (fun q h => absurd h List.not_mem_nil) dX1_leftBy_180
        | succ j ih =>
          intro a hk_a ls hl
          have hlt_a : a < n := by omega
          refine lv_iload hx hb dX1_leftBy_127 (lv_at hl 5 rfl) ?_
          refine lv_aload_n hx hb dX1_leftBy_129 rfl (lv_at hl 0 rfl) ?_
          refine w_getM (own := RX1) (v := .int (nI n)) S in_w hK hP rfl 1 (by decide) fl_7 rfl rfl dX1_leftBy_130 ?_
          refine lv_icmp_ge (tgt := 168) hx hb dX1_leftBy_133 (by decide) (fun h133_1 => absurd h133_1 (nI_ge hlt_a (by omega))) (fun h133_1 => ?_)
          refine lv_iload hx hb dX1_leftBy_136 (lv_at hl 4 rfl) ?_
          refine lv_iload_n hx hb dX1_leftBy_138 rfl (lv_at hl 1 rfl) ?_
          refine lv_iload hx hb dX1_leftBy_139 (lv_at hl 5 rfl) ?_
          refine lv_ishr hx hb dX1_leftBy_141 ?_
          refine lv_iconst (v := nI 1) hx hb dX1_leftBy_142 (by decide) ?_
          refine lv_iand hx hb dX1_leftBy_143 ?_
          rw [nI_shrbit (s := s) (a := a) (by omega) (by omega)]
          refine lv_iconst (v := nI 1) hx hb dX1_leftBy_144 (by decide) ?_
          refine w_icmpB (tgt := 158) hx hb dX1_leftBy_145 (by decide) (fun h145_2 => ?_) (fun h145_2 => ?_)
          · refine lv_iconst (v := nI 0) hx hb dX1_leftBy_158 (by decide) ?_
            refine lv_isub hx hb dX1_leftBy_159 ?_
            refine lv_istore (lv' := [(4, .int ((lfR n (opn w) ol oc s a) - (nI 0))), (0, .ref (q 0)), (1, .int (nI s)), (2, .int (nI j0)), (3, .int (bI (lfD n (opn w) s j0 n))), (5, .int (nI a))]) hx hb dX1_leftBy_160 hl (by decide) rfl (fun ls hl => ?_)
            refine lv_iinc (v := nI (a + 1)) (lv' := [(5, .int (nI (a + 1))), (4, .int ((lfR n (opn w) ol oc s a) - (nI 0))), (0, .ref (q 0)), (1, .int (nI s)), (2, .int (nI j0)), (3, .int (bI (lfD n (opn w) s j0 n)))]) hx hb dX1_leftBy_162 hl (k := 5) rfl (by rw [show Int32.ofInt 1 = nI 1 from by decide, nI_add]) (by decide) rfl (fun ls hl => ?_)
            refine lv_goto (tgt := 127) hx hb dX1_leftBy_165 (by decide) ?_
            have eq_1 : lfR n (opn w) ol oc s (a + 1) = (lfR n (opn w) ol oc s a) - (nI 0) := by (show (if s.testBit a = true then lfR n (opn w) ol oc s a - ol a else lfR n (opn w) ol oc s a) = _; simp only [h145_2, reduceIte, Bool.false_eq_true, sub_nI0])
            have hl : lv_has ls 8 [(5, .int (nI (a + 1))), (4, .int (lfR n (opn w) ol oc s (a + 1))), (0, .ref (q 0)), (1, .int (nI s)), (2, .int (nI j0)), (3, .int (bI (lfD n (opn w) s j0 n)))] := by first | exact hl | (rw [eq_1]; exact hl)
            exact ih (a + 1) (by omega) ls (lv_sub hl [2, 3, 4, 5, 1, 0] rfl)
          · refine lv_aload_n hx hb dX1_leftBy_148 rfl (lv_at hl 0 rfl) ?_
            refine w_getM (own := RX1) (v := .ref (q 8)) S in_w hK hP rfl 10 (by decide) fl_36 rfl rfl dX1_leftBy_149 ?_
            refine lv_iload hx hb dX1_leftBy_152 (lv_at hl 5 rfl) ?_
            refine w_iald hx hb hK hP 8 0 rfl rfl (j := a) (v := ol a) (hL a (by omega)) (by omega) (by decide) dX1_leftBy_154 ?_
            refine lv_goto (tgt := 159) hx hb dX1_leftBy_155 (by decide) ?_
            refine lv_isub hx hb dX1_leftBy_159 ?_
            refine lv_istore (lv' := [(4, .int ((lfR n (opn w) ol oc s a) - (ol a))), (0, .ref (q 0)), (1, .int (nI s)), (2, .int (nI j0)), (3, .int (bI (lfD n (opn w) s j0 n))), (5, .int (nI a))]) hx hb dX1_leftBy_160 hl (by decide) rfl (fun ls hl => ?_)
            refine lv_iinc (v := nI (a + 1)) (lv' := [(5, .int (nI (a + 1))), (4, .int ((lfR n (opn w) ol oc s a) - (ol a))), (0, .ref (q 0)), (1, .int (nI s)), (2, .int (nI j0)), (3, .int (bI (lfD n (opn w) s j0 n)))]) hx hb dX1_leftBy_162 hl (k := 5) rfl (by rw [show Int32.ofInt 1 = nI 1 from by decide, nI_add]) (by decide) rfl (fun ls hl => ?_)
            refine lv_goto (tgt := 127) hx hb dX1_leftBy_165 (by decide) ?_
            have eq_2 : lfR n (opn w) ol oc s (a + 1) = (lfR n (opn w) ol oc s a) - (ol a) := by (show (if s.testBit a = true then lfR n (opn w) ol oc s a - ol a else lfR n (opn w) ol oc s a) = _; simp only [h145_2, reduceIte, Bool.false_eq_true, sub_nI0])
            have hl : lv_has ls 8 [(5, .int (nI (a + 1))), (4, .int (lfR n (opn w) ol oc s (a + 1))), (0, .ref (q 0)), (1, .int (nI s)), (2, .int (nI j0)), (3, .int (bI (lfD n (opn w) s j0 n)))] := by first | exact hl | (rw [eq_2]; exact hl)
            exact ih (a + 1) (by omega) ls (lv_sub hl [2, 3, 4, 5, 1, 0] rfl)
      exact lp127 (n - 0) 0 (by omega) ls (lv_sub hl [1, 2, 3, 4, 5, 0] rfl)
    | succ j ih =>
      intro b hk_b ls hl
      have hlt_b : b < n := by omega
      refine lv_iload hx hb dX1_leftBy_8 (lv_at hl 5 rfl) ?_
      refine lv_aload_n hx hb dX1_leftBy_10 rfl (lv_at hl 0 rfl) ?_
      refine w_getM (own := RX1) (v := .int (nI n)) S in_w hK hP rfl 1 (by decide) fl_7 rfl rfl dX1_leftBy_11 ?_
      refine lv_icmp_ge (tgt := 124) hx hb dX1_leftBy_14 (by decide) (fun h14_0 => absurd h14_0 (nI_ge hlt_b (by omega))) (fun h14_0 => ?_)
      refine lv_iconst (v := nI 0) hx hb dX1_leftBy_17 (by decide) ?_
      refine lv_istore (lv' := [(6, .int (nI 0)), (0, .ref (q 0)), (1, .int (nI s)), (2, .int (nI j0)), (3, .int (bI (lfD n (opn w) s j0 b))), (4, .int (lfL n (opn w) oc s b)), (5, .int (nI b))]) hx hb dX1_leftBy_18 hl (by decide) rfl (fun ls hl => ?_)
      refine lv_iconst (v := nI 0) hx hb dX1_leftBy_20 (by decide) ?_
      refine lv_istore (lv' := [(7, .int (nI 0)), (6, .int (nI 0)), (0, .ref (q 0)), (1, .int (nI s)), (2, .int (nI j0)), (3, .int (bI (lfD n (opn w) s j0 b))), (4, .int (lfL n (opn w) oc s b)), (5, .int (nI b))]) hx hb dX1_leftBy_21 hl (by decide) rfl (fun ls hl => ?_)
      have lp23 : ∀ (j a : Nat), a + j = n → ∀ ls : Array Slot, lv_has ls 8 [(0, .ref (q 0)), (1, .int (nI s)), (2, .int (nI j0)), (3, .int (bI (lfD n (opn w) s j0 b))), (4, .int (lfL n (opn w) oc s b)), (5, .int (nI b)), (6, .int (bI (ldk (opn w) s b a))), (7, .int (nI a))] → W pp l ee rX1_leftBy ss mm args below meth cd ss.heap [] 0 0 Q (F0 mm 23 ls []) := by
        intro j
        induction j with
        | zero =>
          intro a hk_a ls hl
          have hke_a : n = a := by omega
          subst hke_a
          refine lv_iload hx hb dX1_leftBy_23 (lv_at hl 7 rfl) ?_
          refine lv_aload_n hx hb dX1_leftBy_25 rfl (lv_at hl 0 rfl) ?_
          refine w_getM (own := RX1) (v := .int (nI n)) S in_w hK hP rfl 1 (by decide) fl_7 rfl rfl dX1_leftBy_26 ?_
          refine lv_icmp_ge (tgt := 76) hx hb dX1_leftBy_29 (by decide) (fun h29_1 => ?_) (fun h29_1 => absurd (Int32.le_refl _) h29_1)
          refine lv_iload hx hb dX1_leftBy_76 (lv_at hl 4 rfl) ?_
          refine lv_iload hx hb dX1_leftBy_78 (lv_at hl 6 rfl) ?_
          refine w_ifBeq (tgt := 93) hx hb dX1_leftBy_80 (by decide) (fun h80_2 => ?_) (fun h80_2 => ?_)
          · refine lv_iconst (v := nI 0) hx hb dX1_leftBy_93 (by decide) ?_
            refine lv_iadd hx hb dX1_leftBy_94 ?_
            refine lv_istore (lv' := [(4, .int ((lfL n (opn w) oc s b) + (nI 0))), (0, .ref (q 0)), (1, .int (nI s)), (2, .int (nI j0)), (3, .int (bI (lfD n (opn w) s j0 b))), (5, .int (nI b)), (6, .int (bI (ldk (opn w) s b n))), (7, .int (nI n))]) hx hb dX1_leftBy_95 hl (by decide) rfl (fun ls hl => ?_)
            refine lv_iload_n hx hb dX1_leftBy_97 rfl (lv_at hl 4 rfl) ?_
            refine w_ifBne (tgt := 112) hx hb dX1_leftBy_98 (by decide) (fun h98_3 => ?_) (fun h98_3 => ?_)
            · refine lv_iconst (v := nI 1) hx hb dX1_leftBy_112 (by decide) ?_
              refine lv_goto (tgt := 117) hx hb dX1_leftBy_113 (by decide) ?_
              refine lv_istore_n (lv' := [(3, .int (nI 1)), (4, .int ((lfL n (opn w) oc s b) + (nI 0))), (0, .ref (q 0)), (1, .int (nI s)), (2, .int (nI j0)), (5, .int (nI b)), (6, .int (bI (ldk (opn w) s b n))), (7, .int (nI n))]) hx hb dX1_leftBy_117 rfl hl (by decide) rfl (fun ls hl => ?_)
              refine lv_iinc (v := nI (b + 1)) (lv' := [(5, .int (nI (b + 1))), (3, .int (nI 1)), (4, .int ((lfL n (opn w) oc s b) + (nI 0))), (0, .ref (q 0)), (1, .int (nI s)), (2, .int (nI j0)), (6, .int (bI (ldk (opn w) s b n))), (7, .int (nI n))]) hx hb dX1_leftBy_118 hl (k := 5) rfl (by rw [show Int32.ofInt 1 = nI 1 from by decide, nI_add]) (by decide) rfl (fun ls hl => ?_)
              refine lv_goto (tgt := 8) hx hb dX1_leftBy_121 (by decide) ?_
              have eq_3 : bI (lfD n (opn w) s j0 (b + 1)) = nI 1 := by first | (show bI (lfD n (opn w) s j0 b || (ldk (opn w) s b n && decide (nI b = nI j0))) = _; simp only [h29_1, h80_2, h98_3, Bool.true_and, Bool.false_and, Bool.and_true, Bool.and_false, Bool.true_or, Bool.false_or, Bool.or_true, Bool.or_false, Bool.not_true, Bool.not_false, decide_true, decide_false]; rfl) | (show (if ldk (opn w) s b n = true then lfL n (opn w) oc s b + oc b else lfL n (opn w) oc s b) = _; simp only [h29_1, h80_2, h98_3, reduceIte, Bool.false_eq_true, add_nI0])
              have eq_4 : lfL n (opn w) oc s (b + 1) = (lfL n (opn w) oc s b) + (nI 0) := by first | (show bI (lfD n (opn w) s j0 b || (ldk (opn w) s b n && decide (nI b = nI j0))) = _; simp only [h29_1, h80_2, h98_3, Bool.true_and, Bool.false_and, Bool.and_true, Bool.and_false, Bool.true_or, Bool.false_or, Bool.or_true, Bool.or_false, Bool.not_true, Bool.not_false, decide_true, decide_false]; rfl) | (show (if ldk (opn w) s b n = true then lfL n (opn w) oc s b + oc b else lfL n (opn w) oc s b) = _; simp only [h29_1, h80_2, h98_3, reduceIte, Bool.false_eq_true, add_nI0])
              have hl : lv_has ls 8 [(5, .int (nI (b + 1))), (3, .int (bI (lfD n (opn w) s j0 (b + 1)))), (4, .int (lfL n (opn w) oc s (b + 1))), (0, .ref (q 0)), (1, .int (nI s)), (2, .int (nI j0)), (6, .int (bI (ldk (opn w) s b n))), (7, .int (nI n))] := by first | exact hl | (rw [eq_3, eq_4]; exact hl)
              exact ih (b + 1) (by omega) ls (lv_sub hl [3, 4, 5, 1, 2, 0] rfl)
            · refine lv_iload hx hb dX1_leftBy_101 (lv_at hl 6 rfl) ?_
              refine w_ifBeq (tgt := 116) hx hb dX1_leftBy_103 (by decide) (fun h103_4 => ?_) (fun h103_4 => absurd (h80_2) (by rw [h103_4]; decide))
              refine lv_iconst (v := nI 0) hx hb dX1_leftBy_116 (by decide) ?_
              refine lv_istore_n (lv' := [(3, .int (nI 0)), (4, .int ((lfL n (opn w) oc s b) + (nI 0))), (0, .ref (q 0)), (1, .int (nI s)), (2, .int (nI j0)), (5, .int (nI b)), (6, .int (bI (ldk (opn w) s b n))), (7, .int (nI n))]) hx hb dX1_leftBy_117 rfl hl (by decide) rfl (fun ls hl => ?_)
              refine lv_iinc (v := nI (b + 1)) (lv' := [(5, .int (nI (b + 1))), (3, .int (nI 0)), (4, .int ((lfL n (opn w) oc s b) + (nI 0))), (0, .ref (q 0)), (1, .int (nI s)), (2, .int (nI j0)), (6, .int (bI (ldk (opn w) s b n))), (7, .int (nI n))]) hx hb dX1_leftBy_118 hl (k := 5) rfl (by rw [show Int32.ofInt 1 = nI 1 from by decide, nI_add]) (by decide) rfl (fun ls hl => ?_)
              refine lv_goto (tgt := 8) hx hb dX1_leftBy_121 (by decide) ?_
              have eq_5 : bI (lfD n (opn w) s j0 (b + 1)) = nI 0 := by first | (show bI (lfD n (opn w) s j0 b || (ldk (opn w) s b n && decide (nI b = nI j0))) = _; simp only [h29_1, h80_2, h98_3, h103_4, Bool.true_and, Bool.false_and, Bool.and_true, Bool.and_false, Bool.true_or, Bool.false_or, Bool.or_true, Bool.or_false, Bool.not_true, Bool.not_false, decide_true, decide_false]; rfl) | (show (if ldk (opn w) s b n = true then lfL n (opn w) oc s b + oc b else lfL n (opn w) oc s b) = _; simp only [h29_1, h80_2, h98_3, h103_4, reduceIte, Bool.false_eq_true, add_nI0])
              have eq_6 : lfL n (opn w) oc s (b + 1) = (lfL n (opn w) oc s b) + (nI 0) := by first | (show bI (lfD n (opn w) s j0 b || (ldk (opn w) s b n && decide (nI b = nI j0))) = _; simp only [h29_1, h80_2, h98_3, h103_4, Bool.true_and, Bool.false_and, Bool.and_true, Bool.and_false, Bool.true_or, Bool.false_or, Bool.or_true, Bool.or_false, Bool.not_true, Bool.not_false, decide_true, decide_false]; rfl) | (show (if ldk (opn w) s b n = true then lfL n (opn w) oc s b + oc b else lfL n (opn w) oc s b) = _; simp only [h29_1, h80_2, h98_3, h103_4, reduceIte, Bool.false_eq_true, add_nI0])
              have hl : lv_has ls 8 [(5, .int (nI (b + 1))), (3, .int (bI (lfD n (opn w) s j0 (b + 1)))), (4, .int (lfL n (opn w) oc s (b + 1))), (0, .ref (q 0)), (1, .int (nI s)), (2, .int (nI j0)), (6, .int (bI (ldk (opn w) s b n))), (7, .int (nI n))] := by first | exact hl | (rw [eq_5, eq_6]; exact hl)
              exact ih (b + 1) (by omega) ls (lv_sub hl [3, 4, 5, 1, 2, 0] rfl)
          · refine lv_aload_n hx hb dX1_leftBy_83 rfl (lv_at hl 0 rfl) ?_
            refine w_getM (own := RX1) (v := .ref (q 9)) S in_w hK hP rfl 11 (by decide) fl_39 rfl rfl dX1_leftBy_84 ?_
            refine lv_iload hx hb dX1_leftBy_87 (lv_at hl 5 rfl) ?_
            refine w_iald hx hb hK hP 9 0 rfl rfl (j := b) (v := oc b) (hC b (by omega)) (by omega) (by decide) dX1_leftBy_89 ?_
            refine lv_goto (tgt := 94) hx hb dX1_leftBy_90 (by decide) ?_
            refine lv_iadd hx hb dX1_leftBy_94 ?_
            refine lv_istore (lv' := [(4, .int ((lfL n (opn w) oc s b) + (oc b))), (0, .ref (q 0)), (1, .int (nI s)), (2, .int (nI j0)), (3, .int (bI (lfD n (opn w) s j0 b))), (5, .int (nI b)), (6, .int (bI (ldk (opn w) s b n))), (7, .int (nI n))]) hx hb dX1_leftBy_95 hl (by decide) rfl (fun ls hl => ?_)
            refine lv_iload_n hx hb dX1_leftBy_97 rfl (lv_at hl 4 rfl) ?_
            refine w_ifBne (tgt := 112) hx hb dX1_leftBy_98 (by decide) (fun h98_3 => ?_) (fun h98_3 => ?_)
            · refine lv_iconst (v := nI 1) hx hb dX1_leftBy_112 (by decide) ?_
              refine lv_goto (tgt := 117) hx hb dX1_leftBy_113 (by decide) ?_
              refine lv_istore_n (lv' := [(3, .int (nI 1)), (4, .int ((lfL n (opn w) oc s b) + (oc b))), (0, .ref (q 0)), (1, .int (nI s)), (2, .int (nI j0)), (5, .int (nI b)), (6, .int (bI (ldk (opn w) s b n))), (7, .int (nI n))]) hx hb dX1_leftBy_117 rfl hl (by decide) rfl (fun ls hl => ?_)
              refine lv_iinc (v := nI (b + 1)) (lv' := [(5, .int (nI (b + 1))), (3, .int (nI 1)), (4, .int ((lfL n (opn w) oc s b) + (oc b))), (0, .ref (q 0)), (1, .int (nI s)), (2, .int (nI j0)), (6, .int (bI (ldk (opn w) s b n))), (7, .int (nI n))]) hx hb dX1_leftBy_118 hl (k := 5) rfl (by rw [show Int32.ofInt 1 = nI 1 from by decide, nI_add]) (by decide) rfl (fun ls hl => ?_)
              refine lv_goto (tgt := 8) hx hb dX1_leftBy_121 (by decide) ?_
              have eq_7 : bI (lfD n (opn w) s j0 (b + 1)) = nI 1 := by first | (show bI (lfD n (opn w) s j0 b || (ldk (opn w) s b n && decide (nI b = nI j0))) = _; simp only [h29_1, h80_2, h98_3, Bool.true_and, Bool.false_and, Bool.and_true, Bool.and_false, Bool.true_or, Bool.false_or, Bool.or_true, Bool.or_false, Bool.not_true, Bool.not_false, decide_true, decide_false]; rfl) | (show (if ldk (opn w) s b n = true then lfL n (opn w) oc s b + oc b else lfL n (opn w) oc s b) = _; simp only [h29_1, h80_2, h98_3, reduceIte, Bool.false_eq_true, add_nI0])
              have eq_8 : lfL n (opn w) oc s (b + 1) = (lfL n (opn w) oc s b) + (oc b) := by first | (show bI (lfD n (opn w) s j0 b || (ldk (opn w) s b n && decide (nI b = nI j0))) = _; simp only [h29_1, h80_2, h98_3, Bool.true_and, Bool.false_and, Bool.and_true, Bool.and_false, Bool.true_or, Bool.false_or, Bool.or_true, Bool.or_false, Bool.not_true, Bool.not_false, decide_true, decide_false]; rfl) | (show (if ldk (opn w) s b n = true then lfL n (opn w) oc s b + oc b else lfL n (opn w) oc s b) = _; simp only [h29_1, h80_2, h98_3, reduceIte, Bool.false_eq_true, add_nI0])
              have hl : lv_has ls 8 [(5, .int (nI (b + 1))), (3, .int (bI (lfD n (opn w) s j0 (b + 1)))), (4, .int (lfL n (opn w) oc s (b + 1))), (0, .ref (q 0)), (1, .int (nI s)), (2, .int (nI j0)), (6, .int (bI (ldk (opn w) s b n))), (7, .int (nI n))] := by first | exact hl | (rw [eq_7, eq_8]; exact hl)
              exact ih (b + 1) (by omega) ls (lv_sub hl [3, 4, 5, 1, 2, 0] rfl)
            · refine lv_iload hx hb dX1_leftBy_101 (lv_at hl 6 rfl) ?_
              refine w_ifBeq (tgt := 116) hx hb dX1_leftBy_103 (by decide) (fun h103_4 => absurd (h80_2) (by rw [h103_4]; decide)) (fun h103_4 => ?_)
              refine lv_iload hx hb dX1_leftBy_106 (lv_at hl 5 rfl) ?_
              refine lv_iload_n hx hb dX1_leftBy_108 rfl (lv_at hl 3 rfl) ?_
              refine lv_icmp_ne (tgt := 116) hx hb dX1_leftBy_109 (by decide) (fun h109_5 => ?_) (fun h109_5 => ?_)
              · refine lv_iconst (v := nI 0) hx hb dX1_leftBy_116 (by decide) ?_
                refine lv_istore_n (lv' := [(3, .int (nI 0)), (4, .int ((lfL n (opn w) oc s b) + (oc b))), (0, .ref (q 0)), (1, .int (nI s)), (2, .int (nI j0)), (5, .int (nI b)), (6, .int (bI (ldk (opn w) s b n))), (7, .int (nI n))]) hx hb dX1_leftBy_117 rfl hl (by decide) rfl (fun ls hl => ?_)
                refine lv_iinc (v := nI (b + 1)) (lv' := [(5, .int (nI (b + 1))), (3, .int (nI 0)), (4, .int ((lfL n (opn w) oc s b) + (oc b))), (0, .ref (q 0)), (1, .int (nI s)), (2, .int (nI j0)), (6, .int (bI (ldk (opn w) s b n))), (7, .int (nI n))]) hx hb dX1_leftBy_118 hl (k := 5) rfl (by rw [show Int32.ofInt 1 = nI 1 from by decide, nI_add]) (by decide) rfl (fun ls hl => ?_)
                refine lv_goto (tgt := 8) hx hb dX1_leftBy_121 (by decide) ?_
                have eq_9 : bI (lfD n (opn w) s j0 (b + 1)) = nI 0 := by first | (show bI (lfD n (opn w) s j0 b || (ldk (opn w) s b n && decide (nI b = nI j0))) = _; simp only [h29_1, h80_2, h98_3, h103_4, h109_5, Bool.true_and, Bool.false_and, Bool.and_true, Bool.and_false, Bool.true_or, Bool.false_or, Bool.or_true, Bool.or_false, Bool.not_true, Bool.not_false, decide_true, decide_false]; rfl) | (show (if ldk (opn w) s b n = true then lfL n (opn w) oc s b + oc b else lfL n (opn w) oc s b) = _; simp only [h29_1, h80_2, h98_3, h103_4, h109_5, reduceIte, Bool.false_eq_true, add_nI0])
                have eq_10 : lfL n (opn w) oc s (b + 1) = (lfL n (opn w) oc s b) + (oc b) := by first | (show bI (lfD n (opn w) s j0 b || (ldk (opn w) s b n && decide (nI b = nI j0))) = _; simp only [h29_1, h80_2, h98_3, h103_4, h109_5, Bool.true_and, Bool.false_and, Bool.and_true, Bool.and_false, Bool.true_or, Bool.false_or, Bool.or_true, Bool.or_false, Bool.not_true, Bool.not_false, decide_true, decide_false]; rfl) | (show (if ldk (opn w) s b n = true then lfL n (opn w) oc s b + oc b else lfL n (opn w) oc s b) = _; simp only [h29_1, h80_2, h98_3, h103_4, h109_5, reduceIte, Bool.false_eq_true, add_nI0])
                have hl : lv_has ls 8 [(5, .int (nI (b + 1))), (3, .int (bI (lfD n (opn w) s j0 (b + 1)))), (4, .int (lfL n (opn w) oc s (b + 1))), (0, .ref (q 0)), (1, .int (nI s)), (2, .int (nI j0)), (6, .int (bI (ldk (opn w) s b n))), (7, .int (nI n))] := by first | exact hl | (rw [eq_9, eq_10]; exact hl)
                exact ih (b + 1) (by omega) ls (lv_sub hl [3, 4, 5, 1, 2, 0] rfl)
              · refine lv_iconst (v := nI 1) hx hb dX1_leftBy_112 (by decide) ?_
                refine lv_goto (tgt := 117) hx hb dX1_leftBy_113 (by decide) ?_
                refine lv_istore_n (lv' := [(3, .int (nI 1)), (4, .int ((lfL n (opn w) oc s b) + (oc b))), (0, .ref (q 0)), (1, .int (nI s)), (2, .int (nI j0)), (5, .int (nI b)), (6, .int (bI (ldk (opn w) s b n))), (7, .int (nI n))]) hx hb dX1_leftBy_117 rfl hl (by decide) rfl (fun ls hl => ?_)
                refine lv_iinc (v := nI (b + 1)) (lv' := [(5, .int (nI (b + 1))), (3, .int (nI 1)), (4, .int ((lfL n (opn w) oc s b) + (oc b))), (0, .ref (q 0)), (1, .int (nI s)), (2, .int (nI j0)), (6, .int (bI (ldk (opn w) s b n))), (7, .int (nI n))]) hx hb dX1_leftBy_118 hl (k := 5) rfl (by rw [show Int32.ofInt 1 = nI 1 from by decide, nI_add]) (by decide) rfl (fun ls hl => ?_)
                refine lv_goto (tgt := 8) hx hb dX1_leftBy_121 (by decide) ?_
                have eq_11 : bI (lfD n (opn w) s j0 (b + 1)) = nI 1 := by first | (show bI (lfD n (opn w) s j0 b || (ldk (opn w) s b n && decide (nI b = nI j0))) = _; simp only [h29_1, h80_2, h98_3, h103_4, h109_5, Bool.true_and, Bool.false_and, Bool.and_true, Bool.and_false, Bool.true_or, Bool.false_or, Bool.or_true, Bool.or_false, Bool.not_true, Bool.not_false, decide_true, decide_false]; rfl) | (show (if ldk (opn w) s b n = true then lfL n (opn w) oc s b + oc b else lfL n (opn w) oc s b) = _; simp only [h29_1, h80_2, h98_3, h103_4, h109_5, reduceIte, Bool.false_eq_true, add_nI0])
                have eq_12 : lfL n (opn w) oc s (b + 1) = (lfL n (opn w) oc s b) + (oc b) := by first | (show bI (lfD n (opn w) s j0 b || (ldk (opn w) s b n && decide (nI b = nI j0))) = _; simp only [h29_1, h80_2, h98_3, h103_4, h109_5, Bool.true_and, Bool.false_and, Bool.and_true, Bool.and_false, Bool.true_or, Bool.false_or, Bool.or_true, Bool.or_false, Bool.not_true, Bool.not_false, decide_true, decide_false]; rfl) | (show (if ldk (opn w) s b n = true then lfL n (opn w) oc s b + oc b else lfL n (opn w) oc s b) = _; simp only [h29_1, h80_2, h98_3, h103_4, h109_5, reduceIte, Bool.false_eq_true, add_nI0])
                have hl : lv_has ls 8 [(5, .int (nI (b + 1))), (3, .int (bI (lfD n (opn w) s j0 (b + 1)))), (4, .int (lfL n (opn w) oc s (b + 1))), (0, .ref (q 0)), (1, .int (nI s)), (2, .int (nI j0)), (6, .int (bI (ldk (opn w) s b n))), (7, .int (nI n))] := by first | exact hl | (rw [eq_11, eq_12]; exact hl)
                exact ih (b + 1) (by omega) ls (lv_sub hl [3, 4, 5, 1, 2, 0] rfl)
        | succ j ih =>
          intro a hk_a ls hl
          have hlt_a : a < n := by omega
          refine lv_iload hx hb dX1_leftBy_23 (lv_at hl 7 rfl) ?_
          refine lv_aload_n hx hb dX1_leftBy_25 rfl (lv_at hl 0 rfl) ?_
          refine w_getM (own := RX1) (v := .int (nI n)) S in_w hK hP rfl 1 (by decide) fl_7 rfl rfl dX1_leftBy_26 ?_
          refine lv_icmp_ge (tgt := 76) hx hb dX1_leftBy_29 (by decide) (fun h29_1 => absurd h29_1 (nI_ge hlt_a (by omega))) (fun h29_1 => ?_)
          refine lv_iload hx hb dX1_leftBy_32 (lv_at hl 6 rfl) ?_
          refine w_ifBne (tgt := 63) hx hb dX1_leftBy_34 (by decide) (fun h34_2 => ?_) (fun h34_2 => ?_)
          · refine lv_iconst (v := nI 1) hx hb dX1_leftBy_63 (by decide) ?_
            refine lv_goto (tgt := 68) hx hb dX1_leftBy_64 (by decide) ?_
            refine lv_istore (lv' := [(6, .int (nI 1)), (0, .ref (q 0)), (1, .int (nI s)), (2, .int (nI j0)), (3, .int (bI (lfD n (opn w) s j0 b))), (4, .int (lfL n (opn w) oc s b)), (5, .int (nI b)), (7, .int (nI a))]) hx hb dX1_leftBy_68 hl (by decide) rfl (fun ls hl => ?_)
            refine lv_iinc (v := nI (a + 1)) (lv' := [(7, .int (nI (a + 1))), (6, .int (nI 1)), (0, .ref (q 0)), (1, .int (nI s)), (2, .int (nI j0)), (3, .int (bI (lfD n (opn w) s j0 b))), (4, .int (lfL n (opn w) oc s b)), (5, .int (nI b))]) hx hb dX1_leftBy_70 hl (k := 7) rfl (by rw [show Int32.ofInt 1 = nI 1 from by decide, nI_add]) (by decide) rfl (fun ls hl => ?_)
            refine lv_goto (tgt := 23) hx hb dX1_leftBy_73 (by decide) ?_
            have eq_13 : bI (ldk (opn w) s b (a + 1)) = nI 1 := by (show bI (ldk (opn w) s b a || (Nat.testBit s a && opn w a b)) = _; simp only [h34_2, Bool.true_and, Bool.false_and, Bool.and_true, Bool.and_false, Bool.true_or, Bool.false_or, Bool.or_true, Bool.or_false, Bool.not_true, Bool.not_false, decide_true, decide_false]; rfl)
            have hl : lv_has ls 8 [(7, .int (nI (a + 1))), (6, .int (bI (ldk (opn w) s b (a + 1)))), (0, .ref (q 0)), (1, .int (nI s)), (2, .int (nI j0)), (3, .int (bI (lfD n (opn w) s j0 b))), (4, .int (lfL n (opn w) oc s b)), (5, .int (nI b))] := by first | exact hl | (rw [eq_13]; exact hl)
            exact ih (a + 1) (by omega) ls (lv_sub hl [2, 3, 4, 5, 6, 7, 1, 0] rfl)
          · refine lv_iload_n hx hb dX1_leftBy_37 rfl (lv_at hl 1 rfl) ?_
            refine lv_iload hx hb dX1_leftBy_38 (lv_at hl 7 rfl) ?_
            refine lv_ishr hx hb dX1_leftBy_40 ?_
            refine lv_iconst (v := nI 1) hx hb dX1_leftBy_41 (by decide) ?_
            refine lv_iand hx hb dX1_leftBy_42 ?_
            rw [nI_shrbit (s := s) (a := a) (by omega) (by omega)]
            refine lv_iconst (v := nI 1) hx hb dX1_leftBy_43 (by decide) ?_
            refine w_icmpB (tgt := 67) hx hb dX1_leftBy_44 (by decide) (fun h44_3 => ?_) (fun h44_3 => ?_)
            · refine lv_iconst (v := nI 0) hx hb dX1_leftBy_67 (by decide) ?_
              refine lv_istore (lv' := [(6, .int (nI 0)), (0, .ref (q 0)), (1, .int (nI s)), (2, .int (nI j0)), (3, .int (bI (lfD n (opn w) s j0 b))), (4, .int (lfL n (opn w) oc s b)), (5, .int (nI b)), (7, .int (nI a))]) hx hb dX1_leftBy_68 hl (by decide) rfl (fun ls hl => ?_)
              refine lv_iinc (v := nI (a + 1)) (lv' := [(7, .int (nI (a + 1))), (6, .int (nI 0)), (0, .ref (q 0)), (1, .int (nI s)), (2, .int (nI j0)), (3, .int (bI (lfD n (opn w) s j0 b))), (4, .int (lfL n (opn w) oc s b)), (5, .int (nI b))]) hx hb dX1_leftBy_70 hl (k := 7) rfl (by rw [show Int32.ofInt 1 = nI 1 from by decide, nI_add]) (by decide) rfl (fun ls hl => ?_)
              refine lv_goto (tgt := 23) hx hb dX1_leftBy_73 (by decide) ?_
              have eq_14 : bI (ldk (opn w) s b (a + 1)) = nI 0 := by (show bI (ldk (opn w) s b a || (Nat.testBit s a && opn w a b)) = _; simp only [h34_2, h44_3, Bool.true_and, Bool.false_and, Bool.and_true, Bool.and_false, Bool.true_or, Bool.false_or, Bool.or_true, Bool.or_false, Bool.not_true, Bool.not_false, decide_true, decide_false]; rfl)
              have hl : lv_has ls 8 [(7, .int (nI (a + 1))), (6, .int (bI (ldk (opn w) s b (a + 1)))), (0, .ref (q 0)), (1, .int (nI s)), (2, .int (nI j0)), (3, .int (bI (lfD n (opn w) s j0 b))), (4, .int (lfL n (opn w) oc s b)), (5, .int (nI b))] := by first | exact hl | (rw [eq_14]; exact hl)
              exact ih (a + 1) (by omega) ls (lv_sub hl [2, 3, 4, 5, 6, 7, 1, 0] rfl)
            · refine lv_aload_n hx hb dX1_leftBy_47 rfl (lv_at hl 0 rfl) ?_
              refine w_getM (own := RX1) (v := .ref (q 3)) S in_w hK hP rfl 4 (by decide) fl_20 rfl rfl dX1_leftBy_48 ?_
              refine lv_bipush (v := nI 6) hx hb dX1_leftBy_51 (by decide) ?_
              refine lv_iload hx hb dX1_leftBy_53 (lv_at hl 7 rfl) ?_
              refine w_imulL (N := 6) (y := 0) hx hb rfl dX1_leftBy_55 ?_
              refine lv_iload hx hb dX1_leftBy_56 (lv_at hl 5 rfl) ?_
              refine w_iadd hx hb dX1_leftBy_58 ?_
              refine w_iald hx hb hK hP 3 0 rfl rfl (j := 6 * a + b) (v := w a b) (hW a b (by omega) (by omega)) (by omega) (by decide) dX1_leftBy_59 ?_
              refine w_ifW (w := w) a b (tgt := 67) hx hb dX1_leftBy_60 (by decide) (fun h60_4 => ?_) (fun h60_4 => ?_)
              · refine lv_iconst (v := nI 0) hx hb dX1_leftBy_67 (by decide) ?_
                refine lv_istore (lv' := [(6, .int (nI 0)), (0, .ref (q 0)), (1, .int (nI s)), (2, .int (nI j0)), (3, .int (bI (lfD n (opn w) s j0 b))), (4, .int (lfL n (opn w) oc s b)), (5, .int (nI b)), (7, .int (nI a))]) hx hb dX1_leftBy_68 hl (by decide) rfl (fun ls hl => ?_)
                refine lv_iinc (v := nI (a + 1)) (lv' := [(7, .int (nI (a + 1))), (6, .int (nI 0)), (0, .ref (q 0)), (1, .int (nI s)), (2, .int (nI j0)), (3, .int (bI (lfD n (opn w) s j0 b))), (4, .int (lfL n (opn w) oc s b)), (5, .int (nI b))]) hx hb dX1_leftBy_70 hl (k := 7) rfl (by rw [show Int32.ofInt 1 = nI 1 from by decide, nI_add]) (by decide) rfl (fun ls hl => ?_)
                refine lv_goto (tgt := 23) hx hb dX1_leftBy_73 (by decide) ?_
                have eq_15 : bI (ldk (opn w) s b (a + 1)) = nI 0 := by (show bI (ldk (opn w) s b a || (Nat.testBit s a && opn w a b)) = _; simp only [h34_2, h44_3, h60_4, Bool.true_and, Bool.false_and, Bool.and_true, Bool.and_false, Bool.true_or, Bool.false_or, Bool.or_true, Bool.or_false, Bool.not_true, Bool.not_false, decide_true, decide_false]; rfl)
                have hl : lv_has ls 8 [(7, .int (nI (a + 1))), (6, .int (bI (ldk (opn w) s b (a + 1)))), (0, .ref (q 0)), (1, .int (nI s)), (2, .int (nI j0)), (3, .int (bI (lfD n (opn w) s j0 b))), (4, .int (lfL n (opn w) oc s b)), (5, .int (nI b))] := by first | exact hl | (rw [eq_15]; exact hl)
                exact ih (a + 1) (by omega) ls (lv_sub hl [2, 3, 4, 5, 6, 7, 1, 0] rfl)
              · refine lv_iconst (v := nI 1) hx hb dX1_leftBy_63 (by decide) ?_
                refine lv_goto (tgt := 68) hx hb dX1_leftBy_64 (by decide) ?_
                refine lv_istore (lv' := [(6, .int (nI 1)), (0, .ref (q 0)), (1, .int (nI s)), (2, .int (nI j0)), (3, .int (bI (lfD n (opn w) s j0 b))), (4, .int (lfL n (opn w) oc s b)), (5, .int (nI b)), (7, .int (nI a))]) hx hb dX1_leftBy_68 hl (by decide) rfl (fun ls hl => ?_)
                refine lv_iinc (v := nI (a + 1)) (lv' := [(7, .int (nI (a + 1))), (6, .int (nI 1)), (0, .ref (q 0)), (1, .int (nI s)), (2, .int (nI j0)), (3, .int (bI (lfD n (opn w) s j0 b))), (4, .int (lfL n (opn w) oc s b)), (5, .int (nI b))]) hx hb dX1_leftBy_70 hl (k := 7) rfl (by rw [show Int32.ofInt 1 = nI 1 from by decide, nI_add]) (by decide) rfl (fun ls hl => ?_)
                refine lv_goto (tgt := 23) hx hb dX1_leftBy_73 (by decide) ?_
                have eq_16 : bI (ldk (opn w) s b (a + 1)) = nI 1 := by (show bI (ldk (opn w) s b a || (Nat.testBit s a && opn w a b)) = _; simp only [h34_2, h44_3, h60_4, Bool.true_and, Bool.false_and, Bool.and_true, Bool.and_false, Bool.true_or, Bool.false_or, Bool.or_true, Bool.or_false, Bool.not_true, Bool.not_false, decide_true, decide_false]; rfl)
                have hl : lv_has ls 8 [(7, .int (nI (a + 1))), (6, .int (bI (ldk (opn w) s b (a + 1)))), (0, .ref (q 0)), (1, .int (nI s)), (2, .int (nI j0)), (3, .int (bI (lfD n (opn w) s j0 b))), (4, .int (lfL n (opn w) oc s b)), (5, .int (nI b))] := by first | exact hl | (rw [eq_16]; exact hl)
                exact ih (a + 1) (by omega) ls (lv_sub hl [2, 3, 4, 5, 6, 7, 1, 0] rfl)
      exact lp23 (n - 0) 0 (by omega) ls (lv_sub hl [2, 3, 4, 5, 6, 7, 1, 0] rfl)
  exact lp8 (n - 0) 0 (by omega) ls (lv_sub hl [3, 4, 5, 2, 1, 0] rfl)
abbrev rX1_layCell : Room := { frames := 1, cells := 0, slots := 0, locals := 27 }
theorem hdX1_layCell : yX1_layCell.cls = RX1 ∧ yX1_layCell.cls ≠ "java/lang/invoke/MethodHandle" ∧ yX1_layCell.cls ≠ "java/lang/invoke/VarHandle" ∧ (parseMethodDescriptor yX1_layCell.desc).map (fun d => d.parameters.length) = some 2 := by decide +kernel
set_option maxHeartbeats 4000000 in
set_option maxRecDepth 100000 in
theorem c_X1_layCell {l : Launch} {D : va_G} {q : Nat → Nat} {cI cD : ClassId} {th rC : Int32} {hh : Int64} {fi fo fw : Nat → Int32} {fe : Nat → UInt64} {fr : Nat → Int32} {ff : Nat → UInt64} {fp fl fc : Nat → Int32} {n : Nat} (hn : 3 ≤ n ∧ n ≤ 6) {w : Nat → Nat → Int32} (hW : ag2 n fw w) {pt : Nat → Nat → Int32} (hp : ag2 n fp pt) {ol : Nat → Int32} (hL : ag1 n fl ol) {oc : Nat → Int32} (hC : ag1 n fc oc) {i k0 : Nat} (hi : i < n) (hk0 : k0 < n) (hq : qD q) : Met l yX1_layCell wsX1_layCell rX1_layCell (va_Pc [.ref (q 0), .int (nI i), .int (nI k0)] (wPre D (tys2 cI cD) (mW q cI cD th (nI n) rC hh fi fo fw fe fr ff fp fl fc))) (va_Qv (fun (u : (Nat → Int32) × (Nat → Int32) × (Nat → Int32)) => ag2 n u.1 (upd2 pt i k0 (lcV n (opn w) ol oc i k0)) ∧ ag1 n u.2.1 (upd ol i (ol i - lcV n (opn w) ol oc i k0)) ∧ ag1 n u.2.2 (upd oc k0 (oc k0 - lcV n (opn w) ol oc i k0))) (fun u t => va_P D cls2 (mW q cI cD th (nI n) rC hh fi fo fw fe fr ff u.1 u.2.1 u.2.2) t.heap) (qA q)) 0 0 (qA q) := by
  refine met_intro (cc := cX1_layCell) (maxL := 6) (ret := none) (own := RX1) (by decide) rfl rfl (Nat.le_of_ble_eq_true rfl) ?_
  intro pp ee ss mm args below meth cd Q ls hQ S hr hlocks hv hB hl
  obtain ⟨hx, hb, hml, hown, hts⟩ := id S
  obtain ⟨hP, hK⟩ := hB
  have in_w : ∀ w ∈ wsX10, w ∈ wsX1_layCell := by decide +kernel
  have fl_7 : Cond.fieldLink RX1 7 RX1 (TX1 1).2.1 (TX1 1).2.2.1 ∈ wsX1_layCell := by decide +kernel
  have fl_20 : Cond.fieldLink RX1 20 RX1 (TX1 4).2.1 (TX1 4).2.2.1 ∈ wsX1_layCell := by decide +kernel
  have fl_33 : Cond.fieldLink RX1 33 RX1 (TX1 9).2.1 (TX1 9).2.2.1 ∈ wsX1_layCell := by decide +kernel
  have fl_36 : Cond.fieldLink RX1 36 RX1 (TX1 10).2.1 (TX1 10).2.2.1 ∈ wsX1_layCell := by decide +kernel
  have fl_39 : Cond.fieldLink RX1 39 RX1 (TX1 11).2.1 (TX1 11).2.2.1 ∈ wsX1_layCell := by decide +kernel
  have hS : va_S (qA q) ss.heap ss.heap [] := va_S.rf
  generalize hHg : ss.heap = H at hP
  have hS : va_S (qA q) ss.heap H [] := by rw [← hHg]; exact hS
  suffices hgo : ∀ locs : List Loc, va_S (qA q) ss.heap H locs → W pp l ee rX1_layCell ss mm args below meth cd H locs 0 0 Q (F0 mm 0 ls []) by
    first | exact hgo [] hS | (rw [hHg]; exact hgo [] hS)
  clear hS
  intro locs hS
  have hl : lv_has ls 6 [(0, .ref (q 0)), (1, .int (nI i)), (2, .int (nI k0))] := hl
  have hp6 := pow6 hn
  refine lv_aload_n hx hb dX1_layCell_0 rfl (lv_at hl 0 rfl) ?_
  refine w_getM (own := RX1) (v := .ref (q 8)) S in_w hK hP rfl 10 (by decide) fl_36 rfl rfl dX1_layCell_1 ?_
  refine lv_iload_n hx hb dX1_layCell_4 rfl (lv_at hl 1 rfl) ?_
  refine w_iald hx hb hK hP 8 0 rfl rfl (j := i) (v := ol i) (hL i (by omega)) (by omega) (by decide) dX1_layCell_5 ?_
  refine lv_aload_n hx hb dX1_layCell_6 rfl (lv_at hl 0 rfl) ?_
  refine w_getM (own := RX1) (v := .ref (q 9)) S in_w hK hP rfl 11 (by decide) fl_39 rfl rfl dX1_layCell_7 ?_
  refine lv_iload_n hx hb dX1_layCell_10 rfl (lv_at hl 2 rfl) ?_
  refine w_iald hx hb hK hP 9 0 rfl rfl (j := k0) (v := oc k0) (hC k0 (by omega)) (by omega) (by decide) dX1_layCell_11 ?_
  refine lv_icmp_ge (tgt := 24) hx hb dX1_layCell_12 (by decide) (fun h12_0 => ?_) (fun h12_0 => ?_)
  · refine lv_aload_n hx hb dX1_layCell_24 rfl (lv_at hl 0 rfl) ?_
    refine w_getM (own := RX1) (v := .ref (q 9)) S in_w hK hP rfl 11 (by decide) fl_39 rfl rfl dX1_layCell_25 ?_
    refine lv_iload_n hx hb dX1_layCell_28 rfl (lv_at hl 2 rfl) ?_
    refine w_iald hx hb hK hP 9 0 rfl rfl (j := k0) (v := oc k0) (hC k0 (by omega)) (by omega) (by decide) dX1_layCell_29 ?_
    refine lv_istore_n (lv' := [(3, .int (oc k0)), (0, .ref (q 0)), (1, .int (nI i)), (2, .int (nI k0))]) hx hb dX1_layCell_30 rfl hl (by decide) rfl (fun ls hl => ?_)
    refine lv_iconst (v := nI 0) hx hb dX1_layCell_31 (by decide) ?_
    refine lv_istore (lv' := [(4, .int (nI 0)), (3, .int (oc k0)), (0, .ref (q 0)), (1, .int (nI i)), (2, .int (nI k0))]) hx hb dX1_layCell_32 hl (by decide) rfl (fun ls hl => ?_)
    have lp34 : ∀ (j k : Nat), k + j = 2 ^ n → ∀ (H : Heap) (locs : List Loc), va_P D cls2 (mW q cI cD th (nI n) rC hh fi fo fw fe fr ff fp fl fc) H → va_S (qA q) ss.heap H locs → ∀ ls : Array Slot, lv_has ls 6 [(0, .ref (q 0)), (1, .int (nI i)), (2, .int (nI k0)), (3, .int (lcK n (opn w) ol oc i k0 k)), (4, .int (nI k))] → W pp l ee rX1_layCell ss mm args below meth cd H locs 0 0 Q (F0 mm 34 ls []) := by
      intro j
      induction j with
      | zero =>
        intro k hk_k H locs hP hS ls hl
        have hke_k : 2 ^ n = k := by omega
        subst hke_k
        refine lv_iload hx hb dX1_layCell_34 (lv_at hl 4 rfl) ?_
        refine lv_iconst (v := nI 1) hx hb dX1_layCell_36 (by decide) ?_
        refine lv_aload_n hx hb dX1_layCell_37 rfl (lv_at hl 0 rfl) ?_
        refine w_getM (own := RX1) (v := .int (nI n)) S in_w hK hP rfl 1 (by decide) fl_7 rfl rfl dX1_layCell_38 ?_
        refine lv_ishl hx hb dX1_layCell_41 ?_
        rw [nI_shl (by omega)]
        refine lv_icmp_ge (tgt := 88) hx hb dX1_layCell_42 (by decide) (fun h42_1 => ?_) (fun h42_1 => absurd (Int32.le_refl _) h42_1)
        refine lv_aload_n hx hb dX1_layCell_88 rfl (lv_at hl 0 rfl) ?_
        refine w_getM (own := RX1) (v := .ref (q 3)) S in_w hK hP rfl 4 (by decide) fl_20 rfl rfl dX1_layCell_89 ?_
        refine lv_bipush (v := nI 6) hx hb dX1_layCell_92 (by decide) ?_
        refine lv_iload_n hx hb dX1_layCell_94 rfl (lv_at hl 1 rfl) ?_
        refine w_imulL (N := 6) (y := 0) hx hb rfl dX1_layCell_95 ?_
        refine lv_iload_n hx hb dX1_layCell_96 rfl (lv_at hl 2 rfl) ?_
        refine w_iadd hx hb dX1_layCell_97 ?_
        refine w_iald hx hb hK hP 3 0 rfl rfl (j := 6 * i + k0) (v := w i k0) (hW i k0 (by omega) (by omega)) (by omega) (by decide) dX1_layCell_98 ?_
        refine w_ifW (w := w) i k0 (tgt := 106) hx hb dX1_layCell_99 (by decide) (fun h99_2 => ?_) (fun h99_2 => ?_)
        · refine lv_iconst (v := nI 0) hx hb dX1_layCell_106 (by decide) ?_
          refine lv_istore (lv' := [(4, .int (nI 0)), (0, .ref (q 0)), (1, .int (nI i)), (2, .int (nI k0)), (3, .int (lcK n (opn w) ol oc i k0 (2 ^ n)))]) hx hb dX1_layCell_107 hl (by decide) rfl (fun ls hl => ?_)
          refine lv_aload_n hx hb dX1_layCell_109 rfl (lv_at hl 1 rfl) ?_
          refine w_getM (own := RX1) (v := .ref (q 7)) S in_w hK hP rfl 9 (by decide) fl_33 rfl rfl dX1_layCell_110 ?_
          refine lv_bipush (v := nI 6) hx hb dX1_layCell_113 (by decide) ?_
          refine lv_iload_n hx hb dX1_layCell_115 rfl (lv_at hl 2 rfl) ?_
          refine w_imulL (N := 6) (y := 0) hx hb rfl dX1_layCell_116 ?_
          refine lv_iload_n hx hb dX1_layCell_117 rfl (lv_at hl 3 rfl) ?_
          refine w_iadd hx hb dX1_layCell_118 ?_
          refine lv_iload hx hb dX1_layCell_119 (lv_at hl 0 rfl) ?_
          refine w_iast hx hb hK hP (wD_of hq rfl) hS 7 0 rfl rfl (j := 6 * i + k0) (x := nI 0) (by omega) (by decide) dX1_layCell_121 (fun H locs hP _ hS => ?_)
          have hP : va_P D cls2 (mW q cI cD th (nI n) rC hh fi fo fw fe fr ff (upd fp (6 * i + k0) (nI 0)) fl fc) H := hP
          have g_2 : ag2 n (upd fp (6 * i + k0) (nI 0)) (upd2 pt i k0 (nI 0)) := (ag2_upd hp hn.2 (i := i) (j := k0) (by omega) (nI 0))
          generalize (upd fp (6 * i + k0) (nI 0)) = a_1 at hP g_2
          refine lv_aload_n hx hb dX1_layCell_122 rfl (lv_at hl 1 rfl) ?_
          refine w_getM (own := RX1) (v := .ref (q 8)) S in_w hK hP rfl 10 (by decide) fl_36 rfl rfl dX1_layCell_123 ?_
          refine lv_iload_n hx hb dX1_layCell_126 rfl (lv_at hl 2 rfl) ?_
          refine lv_dup2_11 hx hb dX1_layCell_127 rfl rfl ?_
          refine w_iald hx hb hK hP 8 0 rfl rfl (j := i) (v := ol i) (hL i (by omega)) (by omega) (by decide) dX1_layCell_128 ?_
          refine lv_iload hx hb dX1_layCell_129 (lv_at hl 0 rfl) ?_
          refine lv_isub hx hb dX1_layCell_131 ?_
          refine w_iast hx hb hK hP (wD_of hq rfl) hS 8 0 rfl rfl (j := i) (x := (ol i) - (nI 0)) (by omega) (by decide) dX1_layCell_132 (fun H locs hP _ hS => ?_)
          have hP : va_P D cls2 (mW q cI cD th (nI n) rC hh fi fo fw fe fr ff a_1 (upd fl i ((ol i) - (nI 0))) fc) H := hP
          have g_4 : ag1 n (upd fl i ((ol i) - (nI 0))) (upd ol i ((ol i) - (nI 0))) := (ag1_upd hL i ((ol i) - (nI 0)))
          generalize (upd fl i ((ol i) - (nI 0))) = a_3 at hP g_4
          refine lv_aload_n hx hb dX1_layCell_133 rfl (lv_at hl 1 rfl) ?_
          refine w_getM (own := RX1) (v := .ref (q 9)) S in_w hK hP rfl 11 (by decide) fl_39 rfl rfl dX1_layCell_134 ?_
          refine lv_iload_n hx hb dX1_layCell_137 rfl (lv_at hl 3 rfl) ?_
          refine lv_dup2_11 hx hb dX1_layCell_138 rfl rfl ?_
          refine w_iald hx hb hK hP 9 0 rfl rfl (j := k0) (v := oc k0) (hC k0 (by omega)) (by omega) (by decide) dX1_layCell_139 ?_
          refine lv_iload hx hb dX1_layCell_140 (lv_at hl 0 rfl) ?_
          refine lv_isub hx hb dX1_layCell_142 ?_
          refine w_iast hx hb hK hP (wD_of hq rfl) hS 9 0 rfl rfl (j := k0) (x := (oc k0) - (nI 0)) (by omega) (by decide) dX1_layCell_143 (fun H locs hP _ hS => ?_)
          have hP : va_P D cls2 (mW q cI cD th (nI n) rC hh fi fo fw fe fr ff a_1 a_3 (upd fc k0 ((oc k0) - (nI 0)))) H := hP
          have g_6 : ag1 n (upd fc k0 ((oc k0) - (nI 0))) (upd oc k0 ((oc k0) - (nI 0))) := (ag1_upd hC k0 ((oc k0) - (nI 0)))
          generalize (upd fc k0 ((oc k0) - (nI 0))) = a_5 at hP g_6
          subst hQ
          exact W.vret hx hb hr (fun t ht hWm => ⟨⟨(a_1, a_3, a_5), rfl, (by rw [show lcV n (opn w) ol oc i k0 = nI 0 from (by unfold lcV; rw [if_neg (by rw [h99_2]; decide)])]; exact ⟨g_2, g_4, g_6⟩), (show va_P D cls2 _ t.heap from by rw [ht]; exact hP)⟩, hS.F ht⟩) hS.2.2 dX1_layCell_144
        · refine lv_iload_n hx hb dX1_layCell_102 rfl (lv_at hl 3 rfl) ?_
          refine lv_goto (tgt := 107) hx hb dX1_layCell_103 (by decide) ?_
          refine lv_istore (lv' := [(4, .int (lcK n (opn w) ol oc i k0 (2 ^ n))), (0, .ref (q 0)), (1, .int (nI i)), (2, .int (nI k0)), (3, .int (lcK n (opn w) ol oc i k0 (2 ^ n)))]) hx hb dX1_layCell_107 hl (by decide) rfl (fun ls hl => ?_)
          refine lv_aload_n hx hb dX1_layCell_109 rfl (lv_at hl 1 rfl) ?_
          refine w_getM (own := RX1) (v := .ref (q 7)) S in_w hK hP rfl 9 (by decide) fl_33 rfl rfl dX1_layCell_110 ?_
          refine lv_bipush (v := nI 6) hx hb dX1_layCell_113 (by decide) ?_
          refine lv_iload_n hx hb dX1_layCell_115 rfl (lv_at hl 2 rfl) ?_
          refine w_imulL (N := 6) (y := 0) hx hb rfl dX1_layCell_116 ?_
          refine lv_iload_n hx hb dX1_layCell_117 rfl (lv_at hl 3 rfl) ?_
          refine w_iadd hx hb dX1_layCell_118 ?_
          refine lv_iload hx hb dX1_layCell_119 (lv_at hl 0 rfl) ?_
          refine w_iast hx hb hK hP (wD_of hq rfl) hS 7 0 rfl rfl (j := 6 * i + k0) (x := lcK n (opn w) ol oc i k0 (2 ^ n)) (by omega) (by decide) dX1_layCell_121 (fun H locs hP _ hS => ?_)
          have hP : va_P D cls2 (mW q cI cD th (nI n) rC hh fi fo fw fe fr ff (upd fp (6 * i + k0) (lcK n (opn w) ol oc i k0 (2 ^ n))) fl fc) H := hP
          have g_8 : ag2 n (upd fp (6 * i + k0) (lcK n (opn w) ol oc i k0 (2 ^ n))) (upd2 pt i k0 (lcK n (opn w) ol oc i k0 (2 ^ n))) := (ag2_upd hp hn.2 (i := i) (j := k0) (by omega) (lcK n (opn w) ol oc i k0 (2 ^ n)))
          generalize (upd fp (6 * i + k0) (lcK n (opn w) ol oc i k0 (2 ^ n))) = a_7 at hP g_8
          refine lv_aload_n hx hb dX1_layCell_122 rfl (lv_at hl 1 rfl) ?_
          refine w_getM (own := RX1) (v := .ref (q 8)) S in_w hK hP rfl 10 (by decide) fl_36 rfl rfl dX1_layCell_123 ?_
          refine lv_iload_n hx hb dX1_layCell_126 rfl (lv_at hl 2 rfl) ?_
          refine lv_dup2_11 hx hb dX1_layCell_127 rfl rfl ?_
          refine w_iald hx hb hK hP 8 0 rfl rfl (j := i) (v := ol i) (hL i (by omega)) (by omega) (by decide) dX1_layCell_128 ?_
          refine lv_iload hx hb dX1_layCell_129 (lv_at hl 0 rfl) ?_
          refine lv_isub hx hb dX1_layCell_131 ?_
          refine w_iast hx hb hK hP (wD_of hq rfl) hS 8 0 rfl rfl (j := i) (x := (ol i) - (lcK n (opn w) ol oc i k0 (2 ^ n))) (by omega) (by decide) dX1_layCell_132 (fun H locs hP _ hS => ?_)
          have hP : va_P D cls2 (mW q cI cD th (nI n) rC hh fi fo fw fe fr ff a_7 (upd fl i ((ol i) - (lcK n (opn w) ol oc i k0 (2 ^ n)))) fc) H := hP
          have g_10 : ag1 n (upd fl i ((ol i) - (lcK n (opn w) ol oc i k0 (2 ^ n)))) (upd ol i ((ol i) - (lcK n (opn w) ol oc i k0 (2 ^ n)))) := (ag1_upd hL i ((ol i) - (lcK n (opn w) ol oc i k0 (2 ^ n))))
          generalize (upd fl i ((ol i) - (lcK n (opn w) ol oc i k0 (2 ^ n)))) = a_9 at hP g_10
          refine lv_aload_n hx hb dX1_layCell_133 rfl (lv_at hl 1 rfl) ?_
          refine w_getM (own := RX1) (v := .ref (q 9)) S in_w hK hP rfl 11 (by decide) fl_39 rfl rfl dX1_layCell_134 ?_
          refine lv_iload_n hx hb dX1_layCell_137 rfl (lv_at hl 3 rfl) ?_
          refine lv_dup2_11 hx hb dX1_layCell_138 rfl rfl ?_
          refine w_iald hx hb hK hP 9 0 rfl rfl (j := k0) (v := oc k0) (hC k0 (by omega)) (by omega) (by decide) dX1_layCell_139 ?_
          refine lv_iload hx hb dX1_layCell_140 (lv_at hl 0 rfl) ?_
          refine lv_isub hx hb dX1_layCell_142 ?_
          refine w_iast hx hb hK hP (wD_of hq rfl) hS 9 0 rfl rfl (j := k0) (x := (oc k0) - (lcK n (opn w) ol oc i k0 (2 ^ n))) (by omega) (by decide) dX1_layCell_143 (fun H locs hP _ hS => ?_)
          have hP : va_P D cls2 (mW q cI cD th (nI n) rC hh fi fo fw fe fr ff a_7 a_9 (upd fc k0 ((oc k0) - (lcK n (opn w) ol oc i k0 (2 ^ n))))) H := hP
          have g_12 : ag1 n (upd fc k0 ((oc k0) - (lcK n (opn w) ol oc i k0 (2 ^ n)))) (upd oc k0 ((oc k0) - (lcK n (opn w) ol oc i k0 (2 ^ n)))) := (ag1_upd hC k0 ((oc k0) - (lcK n (opn w) ol oc i k0 (2 ^ n))))
          generalize (upd fc k0 ((oc k0) - (lcK n (opn w) ol oc i k0 (2 ^ n)))) = a_11 at hP g_12
          subst hQ
          exact W.vret hx hb hr (fun t ht hWm => ⟨⟨(a_7, a_9, a_11), rfl, (by rw [show lcV n (opn w) ol oc i k0 = lcK n (opn w) ol oc i k0 (2 ^ n) from (by unfold lcV; rw [if_pos h99_2])]; exact ⟨g_8, g_10, g_12⟩), (show va_P D cls2 _ t.heap from by rw [ht]; exact hP)⟩, hS.F ht⟩) hS.2.2 dX1_layCell_144
      | succ j ih =>
        intro k hk_k H locs hP hS ls hl
        have hlt_k : k < 2 ^ n := by omega
        refine lv_iload hx hb dX1_layCell_34 (lv_at hl 4 rfl) ?_
        refine lv_iconst (v := nI 1) hx hb dX1_layCell_36 (by decide) ?_
        refine lv_aload_n hx hb dX1_layCell_37 rfl (lv_at hl 0 rfl) ?_
        refine w_getM (own := RX1) (v := .int (nI n)) S in_w hK hP rfl 1 (by decide) fl_7 rfl rfl dX1_layCell_38 ?_
        refine lv_ishl hx hb dX1_layCell_41 ?_
        rw [nI_shl (by omega)]
        refine lv_icmp_ge (tgt := 88) hx hb dX1_layCell_42 (by decide) (fun h42_1 => absurd h42_1 (nI_ge hlt_k (by omega))) (fun h42_1 => ?_)
        refine lv_iload hx hb dX1_layCell_45 (lv_at hl 4 rfl) ?_
        refine lv_iload_n hx hb dX1_layCell_47 rfl (lv_at hl 1 rfl) ?_
        refine lv_iconst (v := nI 1) hx hb dX1_layCell_48 (by decide) ?_
        refine w_iadd hx hb dX1_layCell_49 ?_
        refine lv_ishr hx hb dX1_layCell_50 ?_
        refine lv_iload_n hx hb dX1_layCell_51 rfl (lv_at hl 1 rfl) ?_
        refine lv_iconst (v := nI 1) hx hb dX1_layCell_52 (by decide) ?_
        refine w_iadd hx hb dX1_layCell_53 ?_
        refine lv_ishl hx hb dX1_layCell_54 ?_
        refine lv_iload hx hb dX1_layCell_55 (lv_at hl 4 rfl) ?_
        refine lv_icmp_ne (tgt := 82) hx hb dX1_layCell_57 (by decide) (fun h57_2 => ?_) (fun h57_2 => ?_)
        · refine lv_iinc (v := nI (k + 1)) (lv' := [(4, .int (nI (k + 1))), (0, .ref (q 0)), (1, .int (nI i)), (2, .int (nI k0)), (3, .int (lcK n (opn w) ol oc i k0 k))]) hx hb dX1_layCell_82 hl (k := 4) rfl (by rw [show Int32.ofInt 1 = nI 1 from by decide, nI_add]) (by decide) rfl (fun ls hl => ?_)
          refine lv_goto (tgt := 34) hx hb dX1_layCell_85 (by decide) ?_
          have eq_13 : lcK n (opn w) ol oc i k0 (k + 1) = lcK n (opn w) ol oc i k0 k := by exact lcK_a (by omega) (by omega) h57_2
          have hl : lv_has ls 6 [(4, .int (nI (k + 1))), (0, .ref (q 0)), (1, .int (nI i)), (2, .int (nI k0)), (3, .int (lcK n (opn w) ol oc i k0 (k + 1)))] := by first | exact hl | (rw [eq_13]; exact hl)
          exact ih (k + 1) (by omega) _ _ hP hS ls (lv_sub hl [1, 2, 3, 4, 0] rfl)
        · refine lv_aload_n hx hb dX1_layCell_60 rfl (lv_at hl 0 rfl) ?_
          refine lv_iload hx hb dX1_layCell_61 (lv_at hl 4 rfl) ?_
          refine lv_iload_n hx hb dX1_layCell_63 rfl (lv_at hl 2 rfl) ?_
          refine vp_callSi (W.runV (As := [.int (nI k), .int (nI k0)]) (rest := []) S (c_X1_leftBy hn hW hL hC (s := k) (j0 := k0) (by omega) (by omega)) (cwV 2 hts gX1_layCell_X1_leftBy rfl rfl rfl hdX1_leftBy ⟨Nat.le_of_ble_eq_true rfl, Nat.le_of_ble_eq_true rfl⟩) (preV hK hP rfl rfl) rfl rfl hl.1 rfl (lv_room (Nat.le_of_ble_eq_true rfl)) dX1_layCell_64 ⟨Nat.zero_le _, Nat.zero_le _⟩) (fun r_14 er_14 => ?_)
          subst er_14
          refine lv_istore (lv' := [(5, .int (lfB n (opn w) ol oc k k0)), (0, .ref (q 0)), (1, .int (nI i)), (2, .int (nI k0)), (3, .int (lcK n (opn w) ol oc i k0 k)), (4, .int (nI k))]) hx hb dX1_layCell_67 hl (by decide) rfl (fun ls hl => ?_)
          refine lv_iload hx hb dX1_layCell_69 (lv_at hl 0 rfl) ?_
          refine lv_iload_n hx hb dX1_layCell_71 rfl (lv_at hl 4 rfl) ?_
          refine lv_icmp_ge (tgt := 80) hx hb dX1_layCell_72 (by decide) (fun h72_3 => ?_) (fun h72_3 => ?_)
          · refine lv_iload_n hx hb dX1_layCell_80 rfl (lv_at hl 4 rfl) ?_
            refine lv_istore_n (lv' := [(3, .int (lcK n (opn w) ol oc i k0 k)), (5, .int (lfB n (opn w) ol oc k k0)), (0, .ref (q 0)), (1, .int (nI i)), (2, .int (nI k0)), (4, .int (nI k))]) hx hb dX1_layCell_81 rfl hl (by decide) rfl (fun ls hl => ?_)
            refine lv_iinc (v := nI (k + 1)) (lv' := [(4, .int (nI (k + 1))), (3, .int (lcK n (opn w) ol oc i k0 k)), (5, .int (lfB n (opn w) ol oc k k0)), (0, .ref (q 0)), (1, .int (nI i)), (2, .int (nI k0))]) hx hb dX1_layCell_82 hl (k := 5) rfl (by rw [show Int32.ofInt 1 = nI 1 from by decide, nI_add]) (by decide) rfl (fun ls hl => ?_)
            refine lv_goto (tgt := 34) hx hb dX1_layCell_85 (by decide) ?_
            have eq_15 : lcK n (opn w) ol oc i k0 (k + 1) = lcK n (opn w) ol oc i k0 k := by first | exact lcK_b (by omega) (by omega) h57_2 h72_3 | exact lcK_c (by omega) (by omega) h57_2 h72_3
            have hl : lv_has ls 6 [(4, .int (nI (k + 1))), (3, .int (lcK n (opn w) ol oc i k0 (k + 1))), (5, .int (lfB n (opn w) ol oc k k0)), (0, .ref (q 0)), (1, .int (nI i)), (2, .int (nI k0))] := by first | exact hl | (rw [eq_15]; exact hl)
            exact ih (k + 1) (by omega) _ _ hP hS ls (lv_sub hl [3, 4, 5, 1, 0] rfl)
          · refine lv_iload hx hb dX1_layCell_75 (lv_at hl 0 rfl) ?_
            refine lv_goto (tgt := 81) hx hb dX1_layCell_77 (by decide) ?_
            refine lv_istore_n (lv' := [(3, .int (lfB n (opn w) ol oc k k0)), (5, .int (lfB n (opn w) ol oc k k0)), (0, .ref (q 0)), (1, .int (nI i)), (2, .int (nI k0)), (4, .int (nI k))]) hx hb dX1_layCell_81 rfl hl (by decide) rfl (fun ls hl => ?_)
            refine lv_iinc (v := nI (k + 1)) (lv' := [(4, .int (nI (k + 1))), (3, .int (lfB n (opn w) ol oc k k0)), (5, .int (lfB n (opn w) ol oc k k0)), (0, .ref (q 0)), (1, .int (nI i)), (2, .int (nI k0))]) hx hb dX1_layCell_82 hl (k := 5) rfl (by rw [show Int32.ofInt 1 = nI 1 from by decide, nI_add]) (by decide) rfl (fun ls hl => ?_)
            refine lv_goto (tgt := 34) hx hb dX1_layCell_85 (by decide) ?_
            have eq_16 : lcK n (opn w) ol oc i k0 (k + 1) = lfB n (opn w) ol oc k k0 := by first | exact lcK_b (by omega) (by omega) h57_2 h72_3 | exact lcK_c (by omega) (by omega) h57_2 h72_3
            have hl : lv_has ls 6 [(4, .int (nI (k + 1))), (3, .int (lcK n (opn w) ol oc i k0 (k + 1))), (5, .int (lfB n (opn w) ol oc k k0)), (0, .ref (q 0)), (1, .int (nI i)), (2, .int (nI k0))] := by first | exact hl | (rw [eq_16]; exact hl)
            exact ih (k + 1) (by omega) _ _ hP hS ls (lv_sub hl [3, 4, 5, 1, 0] rfl)
    exact lp34 (2 ^ n - 0) 0 (by omega) _ _ hP hS ls (by show lv_has ls 6 [_, _, _, (3, .int (if oc k0 ≤ ol i then oc k0 else ol i)), _]; rw [if_pos h12_0]; exact (lv_sub hl [2, 3, 4, 1, 0] rfl))
  · refine lv_aload_n hx hb dX1_layCell_15 rfl (lv_at hl 0 rfl) ?_
    refine w_getM (own := RX1) (v := .ref (q 8)) S in_w hK hP rfl 10 (by decide) fl_36 rfl rfl dX1_layCell_16 ?_
    refine lv_iload_n hx hb dX1_layCell_19 rfl (lv_at hl 1 rfl) ?_
    refine w_iald hx hb hK hP 8 0 rfl rfl (j := i) (v := ol i) (hL i (by omega)) (by omega) (by decide) dX1_layCell_20 ?_
    refine lv_goto (tgt := 30) hx hb dX1_layCell_21 (by decide) ?_
    refine lv_istore_n (lv' := [(3, .int (ol i)), (0, .ref (q 0)), (1, .int (nI i)), (2, .int (nI k0))]) hx hb dX1_layCell_30 rfl hl (by decide) rfl (fun ls hl => ?_)
    refine lv_iconst (v := nI 0) hx hb dX1_layCell_31 (by decide) ?_
    refine lv_istore (lv' := [(4, .int (nI 0)), (3, .int (ol i)), (0, .ref (q 0)), (1, .int (nI i)), (2, .int (nI k0))]) hx hb dX1_layCell_32 hl (by decide) rfl (fun ls hl => ?_)
    have lp34 : ∀ (j k : Nat), k + j = 2 ^ n → ∀ (H : Heap) (locs : List Loc), va_P D cls2 (mW q cI cD th (nI n) rC hh fi fo fw fe fr ff fp fl fc) H → va_S (qA q) ss.heap H locs → ∀ ls : Array Slot, lv_has ls 6 [(0, .ref (q 0)), (1, .int (nI i)), (2, .int (nI k0)), (3, .int (lcK n (opn w) ol oc i k0 k)), (4, .int (nI k))] → W pp l ee rX1_layCell ss mm args below meth cd H locs 0 0 Q (F0 mm 34 ls []) := by
      intro j
      induction j with
      | zero =>
        intro k hk_k H locs hP hS ls hl
        have hke_k : 2 ^ n = k := by omega
        subst hke_k
        refine lv_iload hx hb dX1_layCell_34 (lv_at hl 4 rfl) ?_
        refine lv_iconst (v := nI 1) hx hb dX1_layCell_36 (by decide) ?_
        refine lv_aload_n hx hb dX1_layCell_37 rfl (lv_at hl 0 rfl) ?_
        refine w_getM (own := RX1) (v := .int (nI n)) S in_w hK hP rfl 1 (by decide) fl_7 rfl rfl dX1_layCell_38 ?_
        refine lv_ishl hx hb dX1_layCell_41 ?_
        rw [nI_shl (by omega)]
        refine lv_icmp_ge (tgt := 88) hx hb dX1_layCell_42 (by decide) (fun h42_1 => ?_) (fun h42_1 => absurd (Int32.le_refl _) h42_1)
        refine lv_aload_n hx hb dX1_layCell_88 rfl (lv_at hl 0 rfl) ?_
        refine w_getM (own := RX1) (v := .ref (q 3)) S in_w hK hP rfl 4 (by decide) fl_20 rfl rfl dX1_layCell_89 ?_
        refine lv_bipush (v := nI 6) hx hb dX1_layCell_92 (by decide) ?_
        refine lv_iload_n hx hb dX1_layCell_94 rfl (lv_at hl 1 rfl) ?_
        refine w_imulL (N := 6) (y := 0) hx hb rfl dX1_layCell_95 ?_
        refine lv_iload_n hx hb dX1_layCell_96 rfl (lv_at hl 2 rfl) ?_
        refine w_iadd hx hb dX1_layCell_97 ?_
        refine w_iald hx hb hK hP 3 0 rfl rfl (j := 6 * i + k0) (v := w i k0) (hW i k0 (by omega) (by omega)) (by omega) (by decide) dX1_layCell_98 ?_
        refine w_ifW (w := w) i k0 (tgt := 106) hx hb dX1_layCell_99 (by decide) (fun h99_2 => ?_) (fun h99_2 => ?_)
        · refine lv_iconst (v := nI 0) hx hb dX1_layCell_106 (by decide) ?_
          refine lv_istore (lv' := [(4, .int (nI 0)), (0, .ref (q 0)), (1, .int (nI i)), (2, .int (nI k0)), (3, .int (lcK n (opn w) ol oc i k0 (2 ^ n)))]) hx hb dX1_layCell_107 hl (by decide) rfl (fun ls hl => ?_)
          refine lv_aload_n hx hb dX1_layCell_109 rfl (lv_at hl 1 rfl) ?_
          refine w_getM (own := RX1) (v := .ref (q 7)) S in_w hK hP rfl 9 (by decide) fl_33 rfl rfl dX1_layCell_110 ?_
          refine lv_bipush (v := nI 6) hx hb dX1_layCell_113 (by decide) ?_
          refine lv_iload_n hx hb dX1_layCell_115 rfl (lv_at hl 2 rfl) ?_
          refine w_imulL (N := 6) (y := 0) hx hb rfl dX1_layCell_116 ?_
          refine lv_iload_n hx hb dX1_layCell_117 rfl (lv_at hl 3 rfl) ?_
          refine w_iadd hx hb dX1_layCell_118 ?_
          refine lv_iload hx hb dX1_layCell_119 (lv_at hl 0 rfl) ?_
          refine w_iast hx hb hK hP (wD_of hq rfl) hS 7 0 rfl rfl (j := 6 * i + k0) (x := nI 0) (by omega) (by decide) dX1_layCell_121 (fun H locs hP _ hS => ?_)
          have hP : va_P D cls2 (mW q cI cD th (nI n) rC hh fi fo fw fe fr ff (upd fp (6 * i + k0) (nI 0)) fl fc) H := hP
          have g_18 : ag2 n (upd fp (6 * i + k0) (nI 0)) (upd2 pt i k0 (nI 0)) := (ag2_upd hp hn.2 (i := i) (j := k0) (by omega) (nI 0))
          generalize (upd fp (6 * i + k0) (nI 0)) = a_17 at hP g_18
          refine lv_aload_n hx hb dX1_layCell_122 rfl (lv_at hl 1 rfl) ?_
          refine w_getM (own := RX1) (v := .ref (q 8)) S in_w hK hP rfl 10 (by decide) fl_36 rfl rfl dX1_layCell_123 ?_
          refine lv_iload_n hx hb dX1_layCell_126 rfl (lv_at hl 2 rfl) ?_
          refine lv_dup2_11 hx hb dX1_layCell_127 rfl rfl ?_
          refine w_iald hx hb hK hP 8 0 rfl rfl (j := i) (v := ol i) (hL i (by omega)) (by omega) (by decide) dX1_layCell_128 ?_
          refine lv_iload hx hb dX1_layCell_129 (lv_at hl 0 rfl) ?_
          refine lv_isub hx hb dX1_layCell_131 ?_
          refine w_iast hx hb hK hP (wD_of hq rfl) hS 8 0 rfl rfl (j := i) (x := (ol i) - (nI 0)) (by omega) (by decide) dX1_layCell_132 (fun H locs hP _ hS => ?_)
          have hP : va_P D cls2 (mW q cI cD th (nI n) rC hh fi fo fw fe fr ff a_17 (upd fl i ((ol i) - (nI 0))) fc) H := hP
          have g_20 : ag1 n (upd fl i ((ol i) - (nI 0))) (upd ol i ((ol i) - (nI 0))) := (ag1_upd hL i ((ol i) - (nI 0)))
          generalize (upd fl i ((ol i) - (nI 0))) = a_19 at hP g_20
          refine lv_aload_n hx hb dX1_layCell_133 rfl (lv_at hl 1 rfl) ?_
          refine w_getM (own := RX1) (v := .ref (q 9)) S in_w hK hP rfl 11 (by decide) fl_39 rfl rfl dX1_layCell_134 ?_
          refine lv_iload_n hx hb dX1_layCell_137 rfl (lv_at hl 3 rfl) ?_
          refine lv_dup2_11 hx hb dX1_layCell_138 rfl rfl ?_
          refine w_iald hx hb hK hP 9 0 rfl rfl (j := k0) (v := oc k0) (hC k0 (by omega)) (by omega) (by decide) dX1_layCell_139 ?_
          refine lv_iload hx hb dX1_layCell_140 (lv_at hl 0 rfl) ?_
          refine lv_isub hx hb dX1_layCell_142 ?_
          refine w_iast hx hb hK hP (wD_of hq rfl) hS 9 0 rfl rfl (j := k0) (x := (oc k0) - (nI 0)) (by omega) (by decide) dX1_layCell_143 (fun H locs hP _ hS => ?_)
          have hP : va_P D cls2 (mW q cI cD th (nI n) rC hh fi fo fw fe fr ff a_17 a_19 (upd fc k0 ((oc k0) - (nI 0)))) H := hP
          have g_22 : ag1 n (upd fc k0 ((oc k0) - (nI 0))) (upd oc k0 ((oc k0) - (nI 0))) := (ag1_upd hC k0 ((oc k0) - (nI 0)))
          generalize (upd fc k0 ((oc k0) - (nI 0))) = a_21 at hP g_22
          subst hQ
          exact W.vret hx hb hr (fun t ht hWm => ⟨⟨(a_17, a_19, a_21), rfl, (by rw [show lcV n (opn w) ol oc i k0 = nI 0 from (by unfold lcV; rw [if_neg (by rw [h99_2]; decide)])]; exact ⟨g_18, g_20, g_22⟩), (show va_P D cls2 _ t.heap from by rw [ht]; exact hP)⟩, hS.F ht⟩) hS.2.2 dX1_layCell_144
        · refine lv_iload_n hx hb dX1_layCell_102 rfl (lv_at hl 3 rfl) ?_
          refine lv_goto (tgt := 107) hx hb dX1_layCell_103 (by decide) ?_
          refine lv_istore (lv' := [(4, .int (lcK n (opn w) ol oc i k0 (2 ^ n))), (0, .ref (q 0)), (1, .int (nI i)), (2, .int (nI k0)), (3, .int (lcK n (opn w) ol oc i k0 (2 ^ n)))]) hx hb dX1_layCell_107 hl (by decide) rfl (fun ls hl => ?_)
          refine lv_aload_n hx hb dX1_layCell_109 rfl (lv_at hl 1 rfl) ?_
          refine w_getM (own := RX1) (v := .ref (q 7)) S in_w hK hP rfl 9 (by decide) fl_33 rfl rfl dX1_layCell_110 ?_
          refine lv_bipush (v := nI 6) hx hb dX1_layCell_113 (by decide) ?_
          refine lv_iload_n hx hb dX1_layCell_115 rfl (lv_at hl 2 rfl) ?_
          refine w_imulL (N := 6) (y := 0) hx hb rfl dX1_layCell_116 ?_
          refine lv_iload_n hx hb dX1_layCell_117 rfl (lv_at hl 3 rfl) ?_
          refine w_iadd hx hb dX1_layCell_118 ?_
          refine lv_iload hx hb dX1_layCell_119 (lv_at hl 0 rfl) ?_
          refine w_iast hx hb hK hP (wD_of hq rfl) hS 7 0 rfl rfl (j := 6 * i + k0) (x := lcK n (opn w) ol oc i k0 (2 ^ n)) (by omega) (by decide) dX1_layCell_121 (fun H locs hP _ hS => ?_)
          have hP : va_P D cls2 (mW q cI cD th (nI n) rC hh fi fo fw fe fr ff (upd fp (6 * i + k0) (lcK n (opn w) ol oc i k0 (2 ^ n))) fl fc) H := hP
          have g_24 : ag2 n (upd fp (6 * i + k0) (lcK n (opn w) ol oc i k0 (2 ^ n))) (upd2 pt i k0 (lcK n (opn w) ol oc i k0 (2 ^ n))) := (ag2_upd hp hn.2 (i := i) (j := k0) (by omega) (lcK n (opn w) ol oc i k0 (2 ^ n)))
          generalize (upd fp (6 * i + k0) (lcK n (opn w) ol oc i k0 (2 ^ n))) = a_23 at hP g_24
          refine lv_aload_n hx hb dX1_layCell_122 rfl (lv_at hl 1 rfl) ?_
          refine w_getM (own := RX1) (v := .ref (q 8)) S in_w hK hP rfl 10 (by decide) fl_36 rfl rfl dX1_layCell_123 ?_
          refine lv_iload_n hx hb dX1_layCell_126 rfl (lv_at hl 2 rfl) ?_
          refine lv_dup2_11 hx hb dX1_layCell_127 rfl rfl ?_
          refine w_iald hx hb hK hP 8 0 rfl rfl (j := i) (v := ol i) (hL i (by omega)) (by omega) (by decide) dX1_layCell_128 ?_
          refine lv_iload hx hb dX1_layCell_129 (lv_at hl 0 rfl) ?_
          refine lv_isub hx hb dX1_layCell_131 ?_
          refine w_iast hx hb hK hP (wD_of hq rfl) hS 8 0 rfl rfl (j := i) (x := (ol i) - (lcK n (opn w) ol oc i k0 (2 ^ n))) (by omega) (by decide) dX1_layCell_132 (fun H locs hP _ hS => ?_)
          have hP : va_P D cls2 (mW q cI cD th (nI n) rC hh fi fo fw fe fr ff a_23 (upd fl i ((ol i) - (lcK n (opn w) ol oc i k0 (2 ^ n)))) fc) H := hP
          have g_26 : ag1 n (upd fl i ((ol i) - (lcK n (opn w) ol oc i k0 (2 ^ n)))) (upd ol i ((ol i) - (lcK n (opn w) ol oc i k0 (2 ^ n)))) := (ag1_upd hL i ((ol i) - (lcK n (opn w) ol oc i k0 (2 ^ n))))
          generalize (upd fl i ((ol i) - (lcK n (opn w) ol oc i k0 (2 ^ n)))) = a_25 at hP g_26
          refine lv_aload_n hx hb dX1_layCell_133 rfl (lv_at hl 1 rfl) ?_
          refine w_getM (own := RX1) (v := .ref (q 9)) S in_w hK hP rfl 11 (by decide) fl_39 rfl rfl dX1_layCell_134 ?_
          refine lv_iload_n hx hb dX1_layCell_137 rfl (lv_at hl 3 rfl) ?_
          refine lv_dup2_11 hx hb dX1_layCell_138 rfl rfl ?_
          refine w_iald hx hb hK hP 9 0 rfl rfl (j := k0) (v := oc k0) (hC k0 (by omega)) (by omega) (by decide) dX1_layCell_139 ?_
          refine lv_iload hx hb dX1_layCell_140 (lv_at hl 0 rfl) ?_
          refine lv_isub hx hb dX1_layCell_142 ?_
          refine w_iast hx hb hK hP (wD_of hq rfl) hS 9 0 rfl rfl (j := k0) (x := (oc k0) - (lcK n (opn w) ol oc i k0 (2 ^ n))) (by omega) (by decide) dX1_layCell_143 (fun H locs hP _ hS => ?_)
          have hP : va_P D cls2 (mW q cI cD th (nI n) rC hh fi fo fw fe fr ff a_23 a_25 (upd fc k0 ((oc k0) - (lcK n (opn w) ol oc i k0 (2 ^ n))))) H := hP
          have g_28 : ag1 n (upd fc k0 ((oc k0) - (lcK n (opn w) ol oc i k0 (2 ^ n)))) (upd oc k0 ((oc k0) - (lcK n (opn w) ol oc i k0 (2 ^ n)))) := (ag1_upd hC k0 ((oc k0) - (lcK n (opn w) ol oc i k0 (2 ^ n))))
          generalize (upd fc k0 ((oc k0) - (lcK n (opn w) ol oc i k0 (2 ^ n)))) = a_27 at hP g_28
          subst hQ
          exact W.vret hx hb hr (fun t ht hWm => ⟨⟨(a_23, a_25, a_27), rfl, (by rw [show lcV n (opn w) ol oc i k0 = lcK n (opn w) ol oc i k0 (2 ^ n) from (by unfold lcV; rw [if_pos h99_2])]; exact ⟨g_24, g_26, g_28⟩), (show va_P D cls2 _ t.heap from by rw [ht]; exact hP)⟩, hS.F ht⟩) hS.2.2 dX1_layCell_144
      | succ j ih =>
        intro k hk_k H locs hP hS ls hl
        have hlt_k : k < 2 ^ n := by omega
        refine lv_iload hx hb dX1_layCell_34 (lv_at hl 4 rfl) ?_
        refine lv_iconst (v := nI 1) hx hb dX1_layCell_36 (by decide) ?_
        refine lv_aload_n hx hb dX1_layCell_37 rfl (lv_at hl 0 rfl) ?_
        refine w_getM (own := RX1) (v := .int (nI n)) S in_w hK hP rfl 1 (by decide) fl_7 rfl rfl dX1_layCell_38 ?_
        refine lv_ishl hx hb dX1_layCell_41 ?_
        rw [nI_shl (by omega)]
        refine lv_icmp_ge (tgt := 88) hx hb dX1_layCell_42 (by decide) (fun h42_1 => absurd h42_1 (nI_ge hlt_k (by omega))) (fun h42_1 => ?_)
        refine lv_iload hx hb dX1_layCell_45 (lv_at hl 4 rfl) ?_
        refine lv_iload_n hx hb dX1_layCell_47 rfl (lv_at hl 1 rfl) ?_
        refine lv_iconst (v := nI 1) hx hb dX1_layCell_48 (by decide) ?_
        refine w_iadd hx hb dX1_layCell_49 ?_
        refine lv_ishr hx hb dX1_layCell_50 ?_
        refine lv_iload_n hx hb dX1_layCell_51 rfl (lv_at hl 1 rfl) ?_
        refine lv_iconst (v := nI 1) hx hb dX1_layCell_52 (by decide) ?_
        refine w_iadd hx hb dX1_layCell_53 ?_
        refine lv_ishl hx hb dX1_layCell_54 ?_
        refine lv_iload hx hb dX1_layCell_55 (lv_at hl 4 rfl) ?_
        refine lv_icmp_ne (tgt := 82) hx hb dX1_layCell_57 (by decide) (fun h57_2 => ?_) (fun h57_2 => ?_)
        · refine lv_iinc (v := nI (k + 1)) (lv' := [(4, .int (nI (k + 1))), (0, .ref (q 0)), (1, .int (nI i)), (2, .int (nI k0)), (3, .int (lcK n (opn w) ol oc i k0 k))]) hx hb dX1_layCell_82 hl (k := 4) rfl (by rw [show Int32.ofInt 1 = nI 1 from by decide, nI_add]) (by decide) rfl (fun ls hl => ?_)
          refine lv_goto (tgt := 34) hx hb dX1_layCell_85 (by decide) ?_
          have eq_29 : lcK n (opn w) ol oc i k0 (k + 1) = lcK n (opn w) ol oc i k0 k := by exact lcK_a (by omega) (by omega) h57_2
          have hl : lv_has ls 6 [(4, .int (nI (k + 1))), (0, .ref (q 0)), (1, .int (nI i)), (2, .int (nI k0)), (3, .int (lcK n (opn w) ol oc i k0 (k + 1)))] := by first | exact hl | (rw [eq_29]; exact hl)
          exact ih (k + 1) (by omega) _ _ hP hS ls (lv_sub hl [1, 2, 3, 4, 0] rfl)
        · refine lv_aload_n hx hb dX1_layCell_60 rfl (lv_at hl 0 rfl) ?_
          refine lv_iload hx hb dX1_layCell_61 (lv_at hl 4 rfl) ?_
          refine lv_iload_n hx hb dX1_layCell_63 rfl (lv_at hl 2 rfl) ?_
          refine vp_callSi (W.runV (As := [.int (nI k), .int (nI k0)]) (rest := []) S (c_X1_leftBy hn hW hL hC (s := k) (j0 := k0) (by omega) (by omega)) (cwV 2 hts gX1_layCell_X1_leftBy rfl rfl rfl hdX1_leftBy ⟨Nat.le_of_ble_eq_true rfl, Nat.le_of_ble_eq_true rfl⟩) (preV hK hP rfl rfl) rfl rfl hl.1 rfl (lv_room (Nat.le_of_ble_eq_true rfl)) dX1_layCell_64 ⟨Nat.zero_le _, Nat.zero_le _⟩) (fun r_30 er_30 => ?_)
          subst er_30
          refine lv_istore (lv' := [(5, .int (lfB n (opn w) ol oc k k0)), (0, .ref (q 0)), (1, .int (nI i)), (2, .int (nI k0)), (3, .int (lcK n (opn w) ol oc i k0 k)), (4, .int (nI k))]) hx hb dX1_layCell_67 hl (by decide) rfl (fun ls hl => ?_)
          refine lv_iload hx hb dX1_layCell_69 (lv_at hl 0 rfl) ?_
          refine lv_iload_n hx hb dX1_layCell_71 rfl (lv_at hl 4 rfl) ?_
          refine lv_icmp_ge (tgt := 80) hx hb dX1_layCell_72 (by decide) (fun h72_3 => ?_) (fun h72_3 => ?_)
          · refine lv_iload_n hx hb dX1_layCell_80 rfl (lv_at hl 4 rfl) ?_
            refine lv_istore_n (lv' := [(3, .int (lcK n (opn w) ol oc i k0 k)), (5, .int (lfB n (opn w) ol oc k k0)), (0, .ref (q 0)), (1, .int (nI i)), (2, .int (nI k0)), (4, .int (nI k))]) hx hb dX1_layCell_81 rfl hl (by decide) rfl (fun ls hl => ?_)
            refine lv_iinc (v := nI (k + 1)) (lv' := [(4, .int (nI (k + 1))), (3, .int (lcK n (opn w) ol oc i k0 k)), (5, .int (lfB n (opn w) ol oc k k0)), (0, .ref (q 0)), (1, .int (nI i)), (2, .int (nI k0))]) hx hb dX1_layCell_82 hl (k := 5) rfl (by rw [show Int32.ofInt 1 = nI 1 from by decide, nI_add]) (by decide) rfl (fun ls hl => ?_)
            refine lv_goto (tgt := 34) hx hb dX1_layCell_85 (by decide) ?_
            have eq_31 : lcK n (opn w) ol oc i k0 (k + 1) = lcK n (opn w) ol oc i k0 k := by first | exact lcK_b (by omega) (by omega) h57_2 h72_3 | exact lcK_c (by omega) (by omega) h57_2 h72_3
            have hl : lv_has ls 6 [(4, .int (nI (k + 1))), (3, .int (lcK n (opn w) ol oc i k0 (k + 1))), (5, .int (lfB n (opn w) ol oc k k0)), (0, .ref (q 0)), (1, .int (nI i)), (2, .int (nI k0))] := by first | exact hl | (rw [eq_31]; exact hl)
            exact ih (k + 1) (by omega) _ _ hP hS ls (lv_sub hl [3, 4, 5, 1, 0] rfl)
          · refine lv_iload hx hb dX1_layCell_75 (lv_at hl 0 rfl) ?_
            refine lv_goto (tgt := 81) hx hb dX1_layCell_77 (by decide) ?_
            refine lv_istore_n (lv' := [(3, .int (lfB n (opn w) ol oc k k0)), (5, .int (lfB n (opn w) ol oc k k0)), (0, .ref (q 0)), (1, .int (nI i)), (2, .int (nI k0)), (4, .int (nI k))]) hx hb dX1_layCell_81 rfl hl (by decide) rfl (fun ls hl => ?_)
            refine lv_iinc (v := nI (k + 1)) (lv' := [(4, .int (nI (k + 1))), (3, .int (lfB n (opn w) ol oc k k0)), (5, .int (lfB n (opn w) ol oc k k0)), (0, .ref (q 0)), (1, .int (nI i)), (2, .int (nI k0))]) hx hb dX1_layCell_82 hl (k := 5) rfl (by rw [show Int32.ofInt 1 = nI 1 from by decide, nI_add]) (by decide) rfl (fun ls hl => ?_)
            refine lv_goto (tgt := 34) hx hb dX1_layCell_85 (by decide) ?_
            have eq_32 : lcK n (opn w) ol oc i k0 (k + 1) = lfB n (opn w) ol oc k k0 := by first | exact lcK_b (by omega) (by omega) h57_2 h72_3 | exact lcK_c (by omega) (by omega) h57_2 h72_3
            have hl : lv_has ls 6 [(4, .int (nI (k + 1))), (3, .int (lcK n (opn w) ol oc i k0 (k + 1))), (5, .int (lfB n (opn w) ol oc k k0)), (0, .ref (q 0)), (1, .int (nI i)), (2, .int (nI k0))] := by first | exact hl | (rw [eq_32]; exact hl)
            exact ih (k + 1) (by omega) _ _ hP hS ls (lv_sub hl [3, 4, 5, 1, 0] rfl)
    exact lp34 (2 ^ n - 0) 0 (by omega) _ _ hP hS ls (by show lv_has ls 6 [_, _, _, (3, .int (if oc k0 ≤ ol i then oc k0 else ol i)), _]; rw [if_neg h12_0]; exact (lv_sub hl [2, 3, 4, 1, 0] rfl))
abbrev rX1_layTable : Room := { frames := 2, cells := 0, slots := 0, locals := 52 }
theorem hdX1_layTable : yX1_layTable.cls = RX1 ∧ yX1_layTable.cls ≠ "java/lang/invoke/MethodHandle" ∧ yX1_layTable.cls ≠ "java/lang/invoke/VarHandle" ∧ (parseMethodDescriptor yX1_layTable.desc).map (fun d => d.parameters.length) = some 0 := by decide +kernel
set_option maxHeartbeats 4000000 in
set_option maxRecDepth 100000 in
theorem c_X1_layTable {l : Launch} {D : va_G} {q : Nat → Nat} {cI cD : ClassId} {th rC : Int32} {hh : Int64} {fi fo fw : Nat → Int32} {fe : Nat → UInt64} {fr : Nat → Int32} {ff : Nat → UInt64} {fp fl fc : Nat → Int32} {n : Nat} (hn : 3 ≤ n ∧ n ≤ 6) {inf : Nat → Int32} (hI : ag1 n fi inf) {out : Nat → Int32} (hO : ag1 n fo out) {w : Nat → Nat → Int32} (hW : ag2 n fw w) {pt : Nat → Nat → Int32} (hp : ag2 n fp pt)  (hq : qD q) : Met l yX1_layTable wsX1_layTable rX1_layTable (va_Pc [.ref (q 0)] (wPre D (tys2 cI cD) (mW q cI cD th (nI n) rC hh fi fo fw fe fr ff fp fl fc))) (va_Qv (fun (u : (Nat → Int32) × (Nat → Int32) × (Nat → Int32)) => ag2 n u.1 (ltO n (opn w) n (pt, inf, out)).1) (fun u t => va_P D cls2 (mW q cI cD th (nI n) rC hh fi fo fw fe fr ff u.1 u.2.1 u.2.2) t.heap) (qA q)) 0 0 (qA q) := by
  refine met_intro (cc := cX1_layTable) (maxL := 3) (ret := none) (own := RX1) (by decide) rfl rfl (Nat.le_of_ble_eq_true rfl) ?_
  intro pp ee ss mm args below meth cd Q ls hQ S hr hlocks hv hB hl
  obtain ⟨hx, hb, hml, hown, hts⟩ := id S
  obtain ⟨hP, hK⟩ := hB
  have in_w : ∀ w ∈ wsX10, w ∈ wsX1_layTable := by decide +kernel
  have fl_7 : Cond.fieldLink RX1 7 RX1 (TX1 1).2.1 (TX1 1).2.2.1 ∈ wsX1_layTable := by decide +kernel
  have fl_13 : Cond.fieldLink RX1 13 RX1 (TX1 2).2.1 (TX1 2).2.2.1 ∈ wsX1_layTable := by decide +kernel
  have fl_17 : Cond.fieldLink RX1 17 RX1 (TX1 3).2.1 (TX1 3).2.2.1 ∈ wsX1_layTable := by decide +kernel
  have fl_36 : Cond.fieldLink RX1 36 RX1 (TX1 10).2.1 (TX1 10).2.2.1 ∈ wsX1_layTable := by decide +kernel
  have fl_39 : Cond.fieldLink RX1 39 RX1 (TX1 11).2.1 (TX1 11).2.2.1 ∈ wsX1_layTable := by decide +kernel
  have hS : va_S (qA q) ss.heap ss.heap [] := va_S.rf
  generalize hHg : ss.heap = H at hP
  have hS : va_S (qA q) ss.heap H [] := by rw [← hHg]; exact hS
  suffices hgo : ∀ locs : List Loc, va_S (qA q) ss.heap H locs → W pp l ee rX1_layTable ss mm args below meth cd H locs 0 0 Q (F0 mm 0 ls []) by
    first | exact hgo [] hS | (rw [hHg]; exact hgo [] hS)
  clear hS
  intro locs hS
  have hl : lv_has ls 3 [(0, .ref (q 0))] := hl
  obtain ⟨z1, hz1⟩ : ∃ z1 : Nat → Int32, ag1 n fl z1 := ⟨fl, fun _ _ => rfl⟩
  obtain ⟨z2, hz2⟩ : ∃ z2 : Nat → Int32, ag1 n fc z2 := ⟨fc, fun _ _ => rfl⟩
  refine lv_iconst (v := nI 0) hx hb dX1_layTable_0 (by decide) ?_
  refine lv_istore_n (lv' := [(1, .int (nI 0)), (0, .ref (q 0))]) hx hb dX1_layTable_1 rfl hl (by decide) rfl (fun ls hl => ?_)
  have lp2 : ∀ (j k : Nat), k + j = n → ∀ (fl : Nat → Int32), ∀ (fc : Nat → Int32), ∀ (H : Heap) (locs : List Loc), ag1 n fl (cpO inf k z1) → ag1 n fc (cpO out k z2) → va_P D cls2 (mW q cI cD th (nI n) rC hh fi fo fw fe fr ff fp fl fc) H → va_S (qA q) ss.heap H locs → ∀ ls : Array Slot, lv_has ls 3 [(0, .ref (q 0)), (1, .int (nI k))] → W pp l ee rX1_layTable ss mm args below meth cd H locs 0 0 Q (F0 mm 2 ls []) := by
    intro j
    induction j with
    | zero =>
      intro k hk_k fl fc H locs hg_fl hg_fc hP hS ls hl
      have hke_k : n = k := by omega
      subst hke_k
      refine lv_iload_n hx hb dX1_layTable_2 rfl (lv_at hl 1 rfl) ?_
      refine lv_aload_n hx hb dX1_layTable_3 rfl (lv_at hl 0 rfl) ?_
      refine w_getM (own := RX1) (v := .int (nI n)) S in_w hK hP rfl 1 (by decide) fl_7 rfl rfl dX1_layTable_4 ?_
      refine lv_icmp_ge (tgt := 40) hx hb dX1_layTable_7 (by decide) (fun h7_0 => ?_) (fun h7_0 => absurd (Int32.le_refl _) h7_0)
      refine lv_iconst (v := nI 0) hx hb dX1_layTable_40 (by decide) ?_
      refine lv_istore_n (lv' := [(1, .int (nI 0)), (0, .ref (q 0))]) hx hb dX1_layTable_41 rfl hl (by decide) rfl (fun ls hl => ?_)
      have lp42 : ∀ (j i : Nat), i + j = n → ∀ (fp : Nat → Int32), ∀ (fl : Nat → Int32), ∀ (fc : Nat → Int32), ∀ (H : Heap) (locs : List Loc), ag2 n fp ((ltO n (opn w) i (pt, inf, out)).1) → ag1 n fl ((ltO n (opn w) i (pt, inf, out)).2.1) → ag1 n fc ((ltO n (opn w) i (pt, inf, out)).2.2) → va_P D cls2 (mW q cI cD th (nI n) rC hh fi fo fw fe fr ff fp fl fc) H → va_S (qA q) ss.heap H locs → ∀ ls : Array Slot, lv_has ls 3 [(0, .ref (q 0)), (1, .int (nI i))] → W pp l ee rX1_layTable ss mm args below meth cd H locs 0 0 Q (F0 mm 42 ls []) := by
        intro j
        induction j with
        | zero =>
          intro i hk_i fp fl fc H locs hg_fp hg_fl hg_fc hP hS ls hl
          have hke_i : n = i := by omega
          subst hke_i
          refine lv_iload_n hx hb dX1_layTable_42 rfl (lv_at hl 1 rfl) ?_
          refine lv_aload_n hx hb dX1_layTable_43 rfl (lv_at hl 0 rfl) ?_
          refine w_getM (own := RX1) (v := .int (nI n)) S in_w hK hP rfl 1 (by decide) fl_7 rfl rfl dX1_layTable_44 ?_
          refine lv_icmp_ge (tgt := 78) hx hb dX1_layTable_47 (by decide) (fun h47_1 => ?_) (fun h47_1 => absurd (Int32.le_refl _) h47_1)
          subst hQ
          exact W.vret hx hb hr (fun t ht hWm => ⟨⟨(fp, fl, fc), rfl, hg_fp, (show va_P D cls2 _ t.heap from by rw [ht]; exact hP)⟩, hS.F ht⟩) hS.2.2 dX1_layTable_78
        | succ j ih =>
          intro i hk_i fp fl fc H locs hg_fp hg_fl hg_fc hP hS ls hl
          have hlt_i : i < n := by omega
          refine lv_iload_n hx hb dX1_layTable_42 rfl (lv_at hl 1 rfl) ?_
          refine lv_aload_n hx hb dX1_layTable_43 rfl (lv_at hl 0 rfl) ?_
          refine w_getM (own := RX1) (v := .int (nI n)) S in_w hK hP rfl 1 (by decide) fl_7 rfl rfl dX1_layTable_44 ?_
          refine lv_icmp_ge (tgt := 78) hx hb dX1_layTable_47 (by decide) (fun h47_1 => absurd h47_1 (nI_ge hlt_i (by omega))) (fun h47_1 => ?_)
          refine lv_iconst (v := nI 0) hx hb dX1_layTable_50 (by decide) ?_
          refine lv_istore_n (lv' := [(2, .int (nI 0)), (0, .ref (q 0)), (1, .int (nI i))]) hx hb dX1_layTable_51 rfl hl (by decide) rfl (fun ls hl => ?_)
          have lp52 : ∀ (j k : Nat), k + j = n → ∀ (fp : Nat → Int32), ∀ (fl : Nat → Int32), ∀ (fc : Nat → Int32), ∀ (H : Heap) (locs : List Loc), ag2 n fp ((ltI n (opn w) i k (ltO n (opn w) i (pt, inf, out))).1) → ag1 n fl ((ltI n (opn w) i k (ltO n (opn w) i (pt, inf, out))).2.1) → ag1 n fc ((ltI n (opn w) i k (ltO n (opn w) i (pt, inf, out))).2.2) → va_P D cls2 (mW q cI cD th (nI n) rC hh fi fo fw fe fr ff fp fl fc) H → va_S (qA q) ss.heap H locs → ∀ ls : Array Slot, lv_has ls 3 [(0, .ref (q 0)), (1, .int (nI i)), (2, .int (nI k))] → W pp l ee rX1_layTable ss mm args below meth cd H locs 0 0 Q (F0 mm 52 ls []) := by
            intro j
            induction j with
            | zero =>
              intro k hk_k fp fl fc H locs hg_fp hg_fl hg_fc hP hS ls hl
              have hke_k : n = k := by omega
              subst hke_k
              refine lv_iload_n hx hb dX1_layTable_52 rfl (lv_at hl 2 rfl) ?_
              refine lv_aload_n hx hb dX1_layTable_53 rfl (lv_at hl 0 rfl) ?_
              refine w_getM (own := RX1) (v := .int (nI n)) S in_w hK hP rfl 1 (by decide) fl_7 rfl rfl dX1_layTable_54 ?_
              refine lv_icmp_ge (tgt := 72) hx hb dX1_layTable_57 (by decide) (fun h57_2 => ?_) (fun h57_2 => absurd (Int32.le_refl _) h57_2)
              refine lv_iinc (v := nI (i + 1)) (lv' := [(1, .int (nI (i + 1))), (0, .ref (q 0)), (2, .int (nI n))]) hx hb dX1_layTable_72 hl (k := 1) rfl (by rw [show Int32.ofInt 1 = nI 1 from by decide, nI_add]) (by decide) rfl (fun ls hl => ?_)
              refine lv_goto (tgt := 42) hx hb dX1_layTable_75 (by decide) ?_
              have eq_1 : (ltO n (opn w) (i + 1) (pt, inf, out)).1 = (ltI n (opn w) i n (ltO n (opn w) i (pt, inf, out))).1 := by rfl
              have eq_2 : (ltO n (opn w) (i + 1) (pt, inf, out)).2.1 = (ltI n (opn w) i n (ltO n (opn w) i (pt, inf, out))).2.1 := by rfl
              have eq_3 : (ltO n (opn w) (i + 1) (pt, inf, out)).2.2 = (ltI n (opn w) i n (ltO n (opn w) i (pt, inf, out))).2.2 := by rfl
              exact ih (i + 1) (by omega) _ _ _ _ _ (by rw [eq_1]; exact hg_fp) (by rw [eq_2]; exact hg_fl) (by rw [eq_3]; exact hg_fc) hP hS ls (lv_sub hl [1, 0] rfl)
            | succ j ih =>
              intro k hk_k fp fl fc H locs hg_fp hg_fl hg_fc hP hS ls hl
              have hlt_k : k < n := by omega
              refine lv_iload_n hx hb dX1_layTable_52 rfl (lv_at hl 2 rfl) ?_
              refine lv_aload_n hx hb dX1_layTable_53 rfl (lv_at hl 0 rfl) ?_
              refine w_getM (own := RX1) (v := .int (nI n)) S in_w hK hP rfl 1 (by decide) fl_7 rfl rfl dX1_layTable_54 ?_
              refine lv_icmp_ge (tgt := 72) hx hb dX1_layTable_57 (by decide) (fun h57_2 => absurd h57_2 (nI_ge hlt_k (by omega))) (fun h57_2 => ?_)
              refine lv_aload_n hx hb dX1_layTable_60 rfl (lv_at hl 0 rfl) ?_
              refine lv_iload_n hx hb dX1_layTable_61 rfl (lv_at hl 1 rfl) ?_
              refine lv_iload_n hx hb dX1_layTable_62 rfl (lv_at hl 2 rfl) ?_
              refine va_callv (va_runV (As := [.int (nI i), .int (nI k)]) (rest := []) S (c_X1_layCell hn hW hg_fp hg_fl hg_fc (i := i) (k0 := k) (by omega) (by omega) hq) (cwV 2 hts gX1_layTable_X1_layCell rfl rfl rfl hdX1_layCell ⟨Nat.le_of_ble_eq_true rfl, Nat.le_of_ble_eq_true rfl⟩) (preV hK hP rfl rfl) rfl rfl hl.1 rfl (lv_room (Nat.le_of_ble_eq_true rfl)) dX1_layTable_63 ⟨Nat.zero_le _, Nat.zero_le _⟩) hS (fun _ _ h => h) (fun _ h => h) (fun u_5 t H locs ht hvm hw_6 hB hz1 hk1 hS => ?_)
              replace hB : va_P D cls2 _ t.heap := hB
              rw [ht] at hB
              have hP : va_P D cls2 (mW q cI cD th (nI n) rC hh fi fo fw fe fr ff u_5.1 u_5.2.1 u_5.2.2) H := hB
              refine lv_iinc (v := nI (k + 1)) (lv' := [(2, .int (nI (k + 1))), (0, .ref (q 0)), (1, .int (nI i))]) hx hb dX1_layTable_66 hl (k := 2) rfl (by rw [show Int32.ofInt 1 = nI 1 from by decide, nI_add]) (by decide) rfl (fun ls hl => ?_)
              refine lv_goto (tgt := 52) hx hb dX1_layTable_69 (by decide) ?_
              have eq_7 : (ltI n (opn w) i (k + 1) (ltO n (opn w) i (pt, inf, out))).1 = upd2 ((ltI n (opn w) i k (ltO n (opn w) i (pt, inf, out))).1) i k (lcV n (opn w) ((ltI n (opn w) i k (ltO n (opn w) i (pt, inf, out))).2.1) ((ltI n (opn w) i k (ltO n (opn w) i (pt, inf, out))).2.2) i k) := by rfl
              have eq_8 : (ltI n (opn w) i (k + 1) (ltO n (opn w) i (pt, inf, out))).2.1 = upd ((ltI n (opn w) i k (ltO n (opn w) i (pt, inf, out))).2.1) i (((ltI n (opn w) i k (ltO n (opn w) i (pt, inf, out))).2.1) i - lcV n (opn w) ((ltI n (opn w) i k (ltO n (opn w) i (pt, inf, out))).2.1) ((ltI n (opn w) i k (ltO n (opn w) i (pt, inf, out))).2.2) i k) := by rfl
              have eq_9 : (ltI n (opn w) i (k + 1) (ltO n (opn w) i (pt, inf, out))).2.2 = upd ((ltI n (opn w) i k (ltO n (opn w) i (pt, inf, out))).2.2) k (((ltI n (opn w) i k (ltO n (opn w) i (pt, inf, out))).2.2) k - lcV n (opn w) ((ltI n (opn w) i k (ltO n (opn w) i (pt, inf, out))).2.1) ((ltI n (opn w) i k (ltO n (opn w) i (pt, inf, out))).2.2) i k) := by rfl
              exact ih (k + 1) (by omega) _ _ _ _ _ (by rw [eq_7]; exact hw_6.1) (by rw [eq_8]; exact hw_6.2.1) (by rw [eq_9]; exact hw_6.2.2) hP hS ls (lv_sub hl [1, 2, 0] rfl)
          exact lp52 (n - 0) 0 (by omega) _ _ _ _ _ hg_fp hg_fl hg_fc hP hS ls (lv_sub hl [1, 2, 0] rfl)
      exact lp42 (n - 0) 0 (by omega) _ _ _ _ _ hp (cpO_ag hg_fl) (cpO_ag hg_fc) hP hS ls (lv_sub hl [1, 0] rfl)
    | succ j ih =>
      intro k hk_k fl fc H locs hg_fl hg_fc hP hS ls hl
      have hlt_k : k < n := by omega
      refine lv_iload_n hx hb dX1_layTable_2 rfl (lv_at hl 1 rfl) ?_
      refine lv_aload_n hx hb dX1_layTable_3 rfl (lv_at hl 0 rfl) ?_
      refine w_getM (own := RX1) (v := .int (nI n)) S in_w hK hP rfl 1 (by decide) fl_7 rfl rfl dX1_layTable_4 ?_
      refine lv_icmp_ge (tgt := 40) hx hb dX1_layTable_7 (by decide) (fun h7_0 => absurd h7_0 (nI_ge hlt_k (by omega))) (fun h7_0 => ?_)
      refine lv_aload_n hx hb dX1_layTable_10 rfl (lv_at hl 0 rfl) ?_
      refine w_getM (own := RX1) (v := .ref (q 8)) S in_w hK hP rfl 10 (by decide) fl_36 rfl rfl dX1_layTable_11 ?_
      refine lv_iload_n hx hb dX1_layTable_14 rfl (lv_at hl 1 rfl) ?_
      refine lv_aload_n hx hb dX1_layTable_15 rfl (lv_at hl 0 rfl) ?_
      refine w_getM (own := RX1) (v := .ref (q 1)) S in_w hK hP rfl 2 (by decide) fl_13 rfl rfl dX1_layTable_16 ?_
      refine lv_iload_n hx hb dX1_layTable_19 rfl (lv_at hl 1 rfl) ?_
      refine w_iald hx hb hK hP 1 0 rfl rfl (j := k) (v := inf k) (hI k (by omega)) (by omega) (by decide) dX1_layTable_20 ?_
      refine w_iast hx hb hK hP (wD_of hq rfl) hS 8 0 rfl rfl (j := k) (x := inf k) (by omega) (by decide) dX1_layTable_21 (fun H locs hP _ hS => ?_)
      have hP : va_P D cls2 (mW q cI cD th (nI n) rC hh fi fo fw fe fr ff fp (upd fl k (inf k)) fc) H := hP
      have g_11 : ag1 n (upd fl k (inf k)) (upd (cpO inf k z1) k (inf k)) := (ag1_upd hg_fl k (inf k))
      generalize (upd fl k (inf k)) = a_10 at hP g_11
      refine lv_aload_n hx hb dX1_layTable_22 rfl (lv_at hl 0 rfl) ?_
      refine w_getM (own := RX1) (v := .ref (q 9)) S in_w hK hP rfl 11 (by decide) fl_39 rfl rfl dX1_layTable_23 ?_
      refine lv_iload_n hx hb dX1_layTable_26 rfl (lv_at hl 1 rfl) ?_
      refine lv_aload_n hx hb dX1_layTable_27 rfl (lv_at hl 0 rfl) ?_
      refine w_getM (own := RX1) (v := .ref (q 2)) S in_w hK hP rfl 3 (by decide) fl_17 rfl rfl dX1_layTable_28 ?_
      refine lv_iload_n hx hb dX1_layTable_31 rfl (lv_at hl 1 rfl) ?_
      refine w_iald hx hb hK hP 2 0 rfl rfl (j := k) (v := out k) (hO k (by omega)) (by omega) (by decide) dX1_layTable_32 ?_
      refine w_iast hx hb hK hP (wD_of hq rfl) hS 9 0 rfl rfl (j := k) (x := out k) (by omega) (by decide) dX1_layTable_33 (fun H locs hP _ hS => ?_)
      have hP : va_P D cls2 (mW q cI cD th (nI n) rC hh fi fo fw fe fr ff fp a_10 (upd fc k (out k))) H := hP
      have g_13 : ag1 n (upd fc k (out k)) (upd (cpO out k z2) k (out k)) := (ag1_upd hg_fc k (out k))
      generalize (upd fc k (out k)) = a_12 at hP g_13
      refine lv_iinc (v := nI (k + 1)) (lv' := [(1, .int (nI (k + 1))), (0, .ref (q 0))]) hx hb dX1_layTable_34 hl (k := 1) rfl (by rw [show Int32.ofInt 1 = nI 1 from by decide, nI_add]) (by decide) rfl (fun ls hl => ?_)
      refine lv_goto (tgt := 2) hx hb dX1_layTable_37 (by decide) ?_
      have eq_14 : cpO inf (k + 1) z1 = upd (cpO inf k z1) k (inf k) := by rfl
      have eq_15 : cpO out (k + 1) z2 = upd (cpO out k z2) k (out k) := by rfl
      exact ih (k + 1) (by omega) _ _ _ _ (by rw [eq_14]; exact g_11) (by rw [eq_15]; exact g_13) hP hS ls (lv_sub hl [1, 0] rfl)
  exact lp2 (n - 0) 0 (by omega) _ _ _ _ hz1 hz2 hP hS ls (lv_sub hl [1, 0] rfl)
abbrev rX1_possibleNow : Room := { frames := 3, cells := 0, slots := 0, locals := 74 }
theorem hdX1_possibleNow : yX1_possibleNow.cls = RX1 ∧ yX1_possibleNow.cls ≠ "java/lang/invoke/MethodHandle" ∧ yX1_possibleNow.cls ≠ "java/lang/invoke/VarHandle" ∧ (parseMethodDescriptor yX1_possibleNow.desc).map (fun d => d.parameters.length) = some 2 := by decide +kernel
set_option maxHeartbeats 4000000 in
set_option maxRecDepth 100000 in
theorem c_X1_possibleNow {l : Launch} {D : va_G} {q : Nat → Nat} {cI cD : ClassId} {th rC : Int32} {hh : Int64} {fi fo fw : Nat → Int32} {fe : Nat → UInt64} {fr : Nat → Int32} {ff : Nat → UInt64} {fp fl fc : Nat → Int32} {n : Nat} (hn : 3 ≤ n ∧ n ≤ 6) {inf : Nat → Int32} (hI : ag1 n fi inf) {out : Nat → Int32} (hO : ag1 n fo out) {w : Nat → Nat → Int32} (hW : ag2 n fw w) {pt : Nat → Nat → Int32} (hp : ag2 n fp pt) {i k : Nat} (hi : i < n) (hk : k < n)  (hq : qD q) : Met l yX1_possibleNow wsX1_possibleNow rX1_possibleNow (va_Pc [.ref (q 0), .int (nI i), .int (nI k)] (wPre D (tys2 cI cD) (mW q cI cD th (nI n) rC hh fi fo fw fe fr ff fp fl fc))) (va_Qi (fun r (u : (Nat → Int32) × (Nat → Int32) × (Nat → Int32)) => r = if psb n (opn w) inf out = true then (ltO n (opn w) n (pt, inf, out)).1 i k else -1) (fun u t => va_P D cls2 (mW q cI cD th (nI n) rC hh fi fo fw fe fr ff u.1 u.2.1 u.2.2) t.heap) (qA q)) 0 0 (qA q) := by
  refine met_intro (cc := cX1_possibleNow) (maxL := 3) (ret := (some .int)) (own := RX1) (by decide) rfl rfl (Nat.le_of_ble_eq_true rfl) ?_
  intro pp ee ss mm args below meth cd Q ls hQ S hr hlocks hv hB hl
  obtain ⟨hx, hb, hml, hown, hts⟩ := id S
  obtain ⟨hP, hK⟩ := hB
  have in_w : ∀ w ∈ wsX10, w ∈ wsX1_possibleNow := by decide +kernel
  have fl_33 : Cond.fieldLink RX1 33 RX1 (TX1 9).2.1 (TX1 9).2.2.1 ∈ wsX1_possibleNow := by decide +kernel
  have hS : va_S (qA q) ss.heap ss.heap [] := va_S.rf
  generalize hHg : ss.heap = H at hP
  have hS : va_S (qA q) ss.heap H [] := by rw [← hHg]; exact hS
  suffices hgo : ∀ locs : List Loc, va_S (qA q) ss.heap H locs → W pp l ee rX1_possibleNow ss mm args below meth cd H locs 0 0 Q (F0 mm 0 ls []) by
    first | exact hgo [] hS | (rw [hHg]; exact hgo [] hS)
  clear hS
  intro locs hS
  have hl : lv_has ls 3 [(0, .ref (q 0)), (1, .int (nI i)), (2, .int (nI k))] := hl
  refine lv_aload_n hx hb dX1_possibleNow_0 rfl (lv_at hl 0 rfl) ?_
  refine vp_callSi (W.runV (As := []) (rest := []) S (c_X1_arePossible hn hI hO hW) (cwV 0 hts gX1_possibleNow_X1_arePossible rfl rfl rfl hdX1_arePossible ⟨Nat.le_of_ble_eq_true rfl, Nat.le_of_ble_eq_true rfl⟩) (preV hK hP rfl rfl) rfl rfl hl.1 rfl (lv_room (Nat.le_of_ble_eq_true rfl)) dX1_possibleNow_1 ⟨Nat.zero_le _, Nat.zero_le _⟩) (fun r_1 er_1 => ?_)
  subst er_1
  refine w_ifBne (tgt := 9) hx hb dX1_possibleNow_4 (by decide) (fun h4_0 => ?_) (fun h4_0 => ?_)
  · refine lv_aload_n hx hb dX1_possibleNow_9 rfl (lv_at hl 0 rfl) ?_
    refine va_callv (va_runV (As := []) (rest := []) S (c_X1_layTable hn hI hO hW hp hq) (cwV 0 hts gX1_possibleNow_X1_layTable rfl rfl rfl hdX1_layTable ⟨Nat.le_of_ble_eq_true rfl, Nat.le_of_ble_eq_true rfl⟩) (preV hK hP rfl rfl) rfl rfl hl.1 rfl (lv_room (Nat.le_of_ble_eq_true rfl)) dX1_possibleNow_10 ⟨Nat.zero_le _, Nat.zero_le _⟩) hS (fun _ _ h => h) (fun _ h => h) (fun u_3 t H locs ht hvm hw_4 hB hz1 hk1 hS => ?_)
    replace hB : va_P D cls2 _ t.heap := hB
    rw [ht] at hB
    have hP : va_P D cls2 (mW q cI cD th (nI n) rC hh fi fo fw fe fr ff u_3.1 u_3.2.1 u_3.2.2) H := hB
    refine lv_aload_n hx hb dX1_possibleNow_13 rfl (lv_at hl 0 rfl) ?_
    refine w_getM (own := RX1) (v := .ref (q 7)) S in_w hK hP rfl 9 (by decide) fl_33 rfl rfl dX1_possibleNow_14 ?_
    refine lv_bipush (v := nI 6) hx hb dX1_possibleNow_17 (by decide) ?_
    refine lv_iload_n hx hb dX1_possibleNow_19 rfl (lv_at hl 1 rfl) ?_
    refine w_imulL (N := 6) (y := 0) hx hb rfl dX1_possibleNow_20 ?_
    refine lv_iload_n hx hb dX1_possibleNow_21 rfl (lv_at hl 2 rfl) ?_
    refine w_iadd hx hb dX1_possibleNow_22 ?_
    refine w_iald hx hb hK hP 7 0 rfl rfl (j := 6 * i + k) (v := ((ltO n (opn w) n (pt, inf, out)).1) i k) (hw_4 i k (by omega) (by omega)) (by omega) (by decide) dX1_possibleNow_23 ?_
    subst hQ
    exact W.iret hx hb hr (fun t ht hWm => ⟨⟨_, (u_3.1, u_3.2.1, u_3.2.2), rfl, (by rw [if_pos h4_0]), (show va_P D cls2 _ t.heap from by rw [ht]; exact hP)⟩, hS.F ht⟩) hS.2.2 dX1_possibleNow_24
  · refine lv_iconst (v := -1) hx hb dX1_possibleNow_7 (by decide) ?_
    subst hQ
    exact W.iret hx hb hr (fun t ht hWm => ⟨⟨_, (fp, fl, fc), rfl, (by rw [if_neg (by rw [h4_0]; decide)]), (show va_P D cls2 _ t.heap from by rw [ht]; exact hP)⟩, hS.F ht⟩) hS.2.2 dX1_possibleNow_8
abbrev rX1_possible : Room := { frames := 4, cells := 0, slots := 0, locals := 96 }
theorem hdX1_possible : yX1_possible.cls = RX1 ∧ yX1_possible.cls ≠ "java/lang/invoke/MethodHandle" ∧ yX1_possible.cls ≠ "java/lang/invoke/VarHandle" ∧ (parseMethodDescriptor yX1_possible.desc).map (fun d => d.parameters.length) = some 2 := by decide +kernel
set_option maxHeartbeats 4000000 in
set_option maxRecDepth 100000 in
theorem c_X1_possible {l : Launch} {D : va_G} {q : Nat → Nat} {cI cD : ClassId} {th rC : Int32} {hh : Int64} {fi fo fw : Nat → Int32} {fe : Nat → UInt64} {fr : Nat → Int32} {ff : Nat → UInt64} {fp fl fc : Nat → Int32} {n : Nat} (hn : 3 ≤ n ∧ n ≤ 6) {inf : Nat → Int32} (hI : ag1 n fi inf) {out : Nat → Int32} (hO : ag1 n fo out) {w : Nat → Nat → Int32} (hW : ag2 n fw w) {pt : Nat → Nat → Int32} (hp : ag2 n fp pt) {i k : Nat} (hi : i < n) (hk : k < n)  (hq : qD q) : Met l yX1_possible wsX1_possible rX1_possible (va_Pc [.ref (q 0), .int (nI i), .int (nI k)] (wPre D (tys2 cI cD) (mW q cI cD th (nI n) rC hh fi fo fw fe fr ff fp fl fc))) (va_Qi (fun r (u : (Nat → Int32) × (Nat → Int32) × (Nat → Int32)) => r = if psb n (opn w) inf out = true then (ltO n (opn w) n (pt, inf, out)).1 i k else -1) (fun u t => va_P D cls2 (mW q cI cD (nI 0) (nI n) rC hh fi fo fw fe fr ff u.1 u.2.1 u.2.2) t.heap) (qA q)) 0 0 (qA q) := by
  refine met_intro (cc := cX1_possible) (maxL := 3) (ret := (some .int)) (own := RX1) (by decide) rfl rfl (Nat.le_of_ble_eq_true rfl) ?_
  intro pp ee ss mm args below meth cd Q ls hQ S hr hlocks hv hB hl
  obtain ⟨hx, hb, hml, hown, hts⟩ := id S
  obtain ⟨hP, hK⟩ := hB
  have in_w : ∀ w ∈ wsX10, w ∈ wsX1_possible := by decide +kernel
  have fl_45 : Cond.fieldLink RX1 45 RX1 (TX1 0).2.1 (TX1 0).2.2.1 ∈ wsX1_possible := by decide +kernel
  have hS : va_S (qA q) ss.heap ss.heap [] := va_S.rf
  generalize hHg : ss.heap = H at hP
  have hS : va_S (qA q) ss.heap H [] := by rw [← hHg]; exact hS
  suffices hgo : ∀ locs : List Loc, va_S (qA q) ss.heap H locs → W pp l ee rX1_possible ss mm args below meth cd H locs 0 0 Q (F0 mm 0 ls []) by
    first | exact hgo [] hS | (rw [hHg]; exact hgo [] hS)
  clear hS
  intro locs hS
  have hl : lv_has ls 3 [(0, .ref (q 0)), (1, .int (nI i)), (2, .int (nI k))] := hl
  refine lv_aload_n hx hb dX1_possible_0 rfl (lv_at hl 0 rfl) ?_
  refine lv_aload_n hx hb dX1_possible_1 rfl (lv_at hl 0 rfl) ?_
  refine lv_iload_n hx hb dX1_possible_2 rfl (lv_at hl 1 rfl) ?_
  refine lv_iload_n hx hb dX1_possible_3 rfl (lv_at hl 2 rfl) ?_
  refine vp_callSi (W.runV (As := [.int (nI i), .int (nI k)]) (rest := [.ref (q 0)]) S (c_X1_areArms (x := nI i) (y := nI k)) (cwV 2 hts gX1_possible_X1_areArms rfl rfl rfl hdX1_areArms ⟨Nat.le_of_ble_eq_true rfl, Nat.le_of_ble_eq_true rfl⟩) (preV hK hP rfl rfl) rfl rfl hl.1 rfl (lv_room (Nat.le_of_ble_eq_true rfl)) dX1_possible_4 ⟨Nat.zero_le _, Nat.zero_le _⟩) (fun r_1 er_1 => ?_)
  subst er_1
  refine w_ifBeq (tgt := 14) hx hb dX1_possible_7 (by decide) (fun h7_0 => absurd ((armB2_t hn hi hk)) (by rw [h7_0]; decide)) (fun h7_0 => ?_)
  refine lv_iconst (v := nI 0) hx hb dX1_possible_10 (by decide) ?_
  refine lv_goto (tgt := 15) hx hb dX1_possible_11 (by decide) ?_
  refine w_putM (v := .int (nI 0)) (ty := .int) S in_w hK hP (wD_of hq rfl) hS rfl 0 (by decide) fl_45 rfl (by decide +kernel) rfl rfl (Nat.le_of_ble_eq_true rfl) rfl dX1_possible_15 (fun H locs hP hS => ?_)
  have hP : va_P D cls2 (mW q cI cD (nI 0) (nI n) rC hh fi fo fw fe fr ff fp fl fc) H := hP
  refine lv_aload_n hx hb dX1_possible_18 rfl (lv_at hl 0 rfl) ?_
  refine w_getM (own := RX1) (v := .int (nI 0)) S in_w hK hP rfl 0 (by decide) fl_45 rfl rfl dX1_possible_19 ?_
  refine lv_if_le (tgt := 29) hx hb dX1_possible_22 (by decide) (fun h22_1 => ?_) (fun h22_1 => absurd (by decide) h22_1)
  refine lv_aload_n hx hb dX1_possible_29 rfl (lv_at hl 0 rfl) ?_
  refine lv_iload_n hx hb dX1_possible_30 rfl (lv_at hl 1 rfl) ?_
  refine lv_iload_n hx hb dX1_possible_31 rfl (lv_at hl 2 rfl) ?_
  refine va_calli (va_runV (As := [.int (nI i), .int (nI k)]) (rest := []) S (c_X1_possibleNow hn hI hO hW hp (i := i) (k := k) (by omega) (by omega) hq) (cwV 2 hts gX1_possible_X1_possibleNow rfl rfl rfl hdX1_possibleNow ⟨Nat.le_of_ble_eq_true rfl, Nat.le_of_ble_eq_true rfl⟩) (preV hK hP rfl rfl) rfl rfl hl.1 rfl (lv_room (Nat.le_of_ble_eq_true rfl)) dX1_possible_32 ⟨Nat.zero_le _, Nat.zero_le _⟩) hS (fun _ _ h => h) (fun _ h => h) (fun r_2 u_3 t H locs ht hvm hw_4 hB hz1 hk1 hS => ?_)
  replace hB : va_P D cls2 _ t.heap := hB
  rw [ht] at hB
  subst hw_4
  have hP : va_P D cls2 (mW q cI cD (nI 0) (nI n) rC hh fi fo fw fe fr ff u_3.1 u_3.2.1 u_3.2.2) H := hB
  subst hQ
  exact W.iret hx hb hr (fun t ht hWm => ⟨⟨_, (u_3.1, u_3.2.1, u_3.2.2), rfl, rfl, (show va_P D cls2 _ t.heap from by rw [ht]; exact hP)⟩, hS.F ht⟩) hS.2.2 dX1_possible_35
set_option maxHeartbeats 4000000 in
set_option maxRecDepth 100000 in
theorem c_X1_possiblex {l : Launch} {D : va_G} {q : Nat → Nat} {cI cD : ClassId} {th rC : Int32} {hh : Int64} {fi fo fw : Nat → Int32} {fe : Nat → UInt64} {fr : Nat → Int32} {ff : Nat → UInt64} {fp fl fc : Nat → Int32} {n : Nat} (hn : 3 ≤ n ∧ n ≤ 6) {x y : Int32} (hxx : (armB n x && armB n y) = false) (hq : qD q) : Met l yX1_possible wsX1_possible rX1_possible (va_Pc [.ref (q 0), .int x, .int y] (wPre D (tys2 cI cD) (mW q cI cD th (nI n) rC hh fi fo fw fe fr ff fp fl fc))) (va_Qi (fun r (u : Unit) => True) (fun u t => va_P D cls2 (mW q cI cD (nI 1) (nI n) rC hh fi fo fw fe fr ff fp fl fc) t.heap) (qA q)) 0 0 (qA q) := by
  refine met_intro (cc := cX1_possible) (maxL := 3) (ret := (some .int)) (own := RX1) (by decide) rfl rfl (Nat.le_of_ble_eq_true rfl) ?_
  intro pp ee ss mm args below meth cd Q ls hQ S hr hlocks hv hB hl
  obtain ⟨hx, hb, hml, hown, hts⟩ := id S
  obtain ⟨hP, hK⟩ := hB
  have in_w : ∀ w ∈ wsX10, w ∈ wsX1_possible := by decide +kernel
  have fl_45 : Cond.fieldLink RX1 45 RX1 (TX1 0).2.1 (TX1 0).2.2.1 ∈ wsX1_possible := by decide +kernel
  have hS : va_S (qA q) ss.heap ss.heap [] := va_S.rf
  generalize hHg : ss.heap = H at hP
  have hS : va_S (qA q) ss.heap H [] := by rw [← hHg]; exact hS
  suffices hgo : ∀ locs : List Loc, va_S (qA q) ss.heap H locs → W pp l ee rX1_possible ss mm args below meth cd H locs 0 0 Q (F0 mm 0 ls []) by
    first | exact hgo [] hS | (rw [hHg]; exact hgo [] hS)
  clear hS
  intro locs hS
  have hl : lv_has ls 3 [(0, .ref (q 0)), (1, .int x), (2, .int y)] := hl
  refine lv_aload_n hx hb dX1_possible_0 rfl (lv_at hl 0 rfl) ?_
  refine lv_aload_n hx hb dX1_possible_1 rfl (lv_at hl 0 rfl) ?_
  refine lv_iload_n hx hb dX1_possible_2 rfl (lv_at hl 1 rfl) ?_
  refine lv_iload_n hx hb dX1_possible_3 rfl (lv_at hl 2 rfl) ?_
  refine vp_callSi (W.runV (As := [.int x, .int y]) (rest := [.ref (q 0)]) S (c_X1_areArms (x := x) (y := y)) (cwV 2 hts gX1_possible_X1_areArms rfl rfl rfl hdX1_areArms ⟨Nat.le_of_ble_eq_true rfl, Nat.le_of_ble_eq_true rfl⟩) (preV hK hP rfl rfl) rfl rfl hl.1 rfl (lv_room (Nat.le_of_ble_eq_true rfl)) dX1_possible_4 ⟨Nat.zero_le _, Nat.zero_le _⟩) (fun r_1 er_1 => ?_)
  subst er_1
  refine w_ifBeq (tgt := 14) hx hb dX1_possible_7 (by decide) (fun h7_0 => ?_) (fun h7_0 => absurd (hxx) (by rw [h7_0]; decide))
  refine lv_iconst (v := nI 1) hx hb dX1_possible_14 (by decide) ?_
  refine w_putM (v := .int (nI 1)) (ty := .int) S in_w hK hP (wD_of hq rfl) hS rfl 0 (by decide) fl_45 rfl (by decide +kernel) rfl rfl (Nat.le_of_ble_eq_true rfl) rfl dX1_possible_15 (fun H locs hP hS => ?_)
  have hP : va_P D cls2 (mW q cI cD (nI 1) (nI n) rC hh fi fo fw fe fr ff fp fl fc) H := hP
  refine lv_aload_n hx hb dX1_possible_18 rfl (lv_at hl 0 rfl) ?_
  refine w_getM (own := RX1) (v := .int (nI 1)) S in_w hK hP rfl 0 (by decide) fl_45 rfl rfl dX1_possible_19 ?_
  refine lv_if_le (tgt := 29) hx hb dX1_possible_22 (by decide) (fun h22_1 => absurd h22_1 (by decide)) (fun h22_1 => ?_)
  refine lv_iconst (v := nI 0) hx hb dX1_possible_25 (by decide) ?_
  refine lv_goto (tgt := 35) hx hb dX1_possible_26 (by decide) ?_
  subst hQ
  exact W.iret hx hb hr (fun t ht hWm => ⟨⟨_, (), rfl, trivial, (show va_P D cls2 _ t.heap from by rw [ht]; exact hP)⟩, hS.F ht⟩) hS.2.2 dX1_possible_35
abbrev rX1_mix : Room := { frames := 0, cells := 0, slots := 0, locals := 0 }
theorem hdX1_mix : yX1_mix.cls = RX1 ∧ yX1_mix.cls ≠ "java/lang/invoke/MethodHandle" ∧ yX1_mix.cls ≠ "java/lang/invoke/VarHandle" ∧ (parseMethodDescriptor yX1_mix.desc).map (fun d => d.parameters.length) = some 1 := by decide +kernel
set_option maxHeartbeats 4000000 in
set_option maxRecDepth 100000 in
theorem c_X1_mix {l : Launch} {D : va_G} {q : Nat → Nat} {cI cD : ClassId} {th rC : Int32} {hh : Int64} {fi fo fw : Nat → Int32} {fe : Nat → UInt64} {fr : Nat → Int32} {ff : Nat → UInt64} {fp fl fc : Nat → Int32} {n : Nat} {v : Int64} (hq : qD q) : Met l yX1_mix wsX1_mix rX1_mix (va_Pc [.ref (q 0), .long v] (wPre D (tys2 cI cD) (mW q cI cD th (nI n) rC hh fi fo fw fe fr ff fp fl fc))) (va_Qv (fun (u : Unit) => True) (fun u t => va_P D cls2 (mW q cI cD th (nI n) rC (31 * hh + v) fi fo fw fe fr ff fp fl fc) t.heap) (qA q)) 0 0 (qA q) := by
  refine met_intro (cc := cX1_mix) (maxL := 3) (ret := none) (own := RX1) (by decide) rfl rfl (Nat.le_of_ble_eq_true rfl) ?_
  intro pp ee ss mm args below meth cd Q ls hQ S hr hlocks hv hB hl
  obtain ⟨hx, hb, hml, hown, hts⟩ := id S
  obtain ⟨hP, hK⟩ := hB
  have in_w : ∀ w ∈ wsX10, w ∈ wsX1_mix := by decide +kernel
  have fl_148 : Cond.fieldLink RX1 148 RX1 (TX1 12).2.1 (TX1 12).2.2.1 ∈ wsX1_mix := by decide +kernel
  have hS : va_S (qA q) ss.heap ss.heap [] := va_S.rf
  generalize hHg : ss.heap = H at hP
  have hS : va_S (qA q) ss.heap H [] := by rw [← hHg]; exact hS
  suffices hgo : ∀ locs : List Loc, va_S (qA q) ss.heap H locs → W pp l ee rX1_mix ss mm args below meth cd H locs 0 0 Q (F0 mm 0 ls []) by
    first | exact hgo [] hS | (rw [hHg]; exact hgo [] hS)
  clear hS
  intro locs hS
  have hl : lv_has ls 3 [(0, .ref (q 0)), (1, .long v)] := hl
  refine lv_aload_n hx hb dX1_mix_0 rfl (lv_at hl 0 rfl) ?_
  refine lv_ldc2 (v := 31) hx hb hown (hts (.constantLong RX1 146 31) (by decide +kernel)) dX1_mix_1 ?_
  refine lv_aload_n hx hb dX1_mix_4 rfl (lv_at hl 0 rfl) ?_
  refine w_getM (own := RX1) (v := .long hh) S in_w hK hP rfl 12 (by decide) fl_148 rfl rfl dX1_mix_5 ?_
  refine lv_lmul hx hb dX1_mix_8 ?_
  refine lv_lload_n hx hb dX1_mix_9 rfl (lv_at hl 1 rfl) ?_
  refine lv_ladd hx hb dX1_mix_10 ?_
  refine w_putM (v := .long ((31 * hh) + v)) (ty := .long) S in_w hK hP (wD_of hq rfl) hS rfl 12 (by decide) fl_148 rfl (by decide +kernel) rfl rfl (Nat.le_of_ble_eq_true rfl) rfl dX1_mix_11 (fun H locs hP hS => ?_)
  have hP : va_P D cls2 (mW q cI cD th (nI n) rC ((31 * hh) + v) fi fo fw fe fr ff fp fl fc) H := hP
  subst hQ
  exact W.vret hx hb hr (fun t ht hWm => ⟨⟨(), rfl, trivial, (show va_P D cls2 _ t.heap from by rw [ht]; exact hP)⟩, hS.F ht⟩) hS.2.2 dX1_mix_14
abbrev rX1_mixTurns : Room := { frames := 3, cells := 0, slots := 0, locals := 74 }
theorem hdX1_mixTurns : yX1_mixTurns.cls = RX1 ∧ yX1_mixTurns.cls ≠ "java/lang/invoke/MethodHandle" ∧ yX1_mixTurns.cls ≠ "java/lang/invoke/VarHandle" ∧ (parseMethodDescriptor yX1_mixTurns.desc).map (fun d => d.parameters.length) = some 0 := by decide +kernel
set_option maxHeartbeats 4000000 in
set_option maxRecDepth 100000 in
theorem c_X1_mixTurns {l : Launch} {D : va_G} {q : Nat → Nat} {cI cD : ClassId} {th rC : Int32} {hh : Int64} {fi fo fw : Nat → Int32} {fe : Nat → UInt64} {fr : Nat → Int32} {ff : Nat → UInt64} {fp fl fc : Nat → Int32} {n : Nat} (hn : 3 ≤ n ∧ n ≤ 6) {inf : Nat → Int32} (hI : ag1 n fi inf) {out : Nat → Int32} (hO : ag1 n fo out) {w : Nat → Nat → Int32} (hW : ag2 n fw w) {e : Nat → Nat → UInt64} (hE : ag2 n fe e) {rt : Nat → Nat → Int32} (hR : ag2 n fr rt) {fs : Nat → UInt64} (hF : ag1 n ff fs) {pt : Nat → Nat → Int32} (hp : ag2 n fp pt) (ho : (∀ i : Nat, i < n → okX n inf e i) ∧ ∀ i j : Nat, i < n → j < n → vf_n64 (FP.dmul (e i j) 4652007308841189376)) (hq : qD q) : Met l yX1_mixTurns wsX1_mixTurns rX1_mixTurns (va_Pc [.ref (q 0)] (wPre D (tys2 cI cD) (mW q cI cD th (nI n) rC hh fi fo fw fe fr ff fp fl fc))) (va_Qv (fun (u : (Nat → Int32) × (Nat → UInt64) × (Nat → Int32) × (Nat → Int32) × (Nat → Int32)) => ag2 n u.1 (ralM (opn w) n inf e n (rt, fs)).1 ∧ ag1 n u.2.1 (ralM (opn w) n inf e n (rt, fs)).2) (fun u t => va_P D cls2 (mW q cI cD th (nI n) rC (dgO w e (ralM (opn w) n inf e n (rt, fs)).1 (if psb n (opn w) inf out = true then (ltO n (opn w) n (pt, inf, out)).1 else noT) n n hh) fi fo fw fe u.1 u.2.1 u.2.2.1 u.2.2.2.1 u.2.2.2.2) t.heap) (qA q)) 0 0 (qA q) := by
  refine met_intro (cc := cX1_mixTurns) (maxL := 4) (ret := none) (own := RX1) (by decide) rfl rfl (Nat.le_of_ble_eq_true rfl) ?_
  intro pp ee ss mm args below meth cd Q ls hQ S hr hlocks hv hB hl
  obtain ⟨hx, hb, hml, hown, hts⟩ := id S
  obtain ⟨hP, hK⟩ := hB
  have in_w : ∀ w ∈ wsX10, w ∈ wsX1_mixTurns := by decide +kernel
  have fl_7 : Cond.fieldLink RX1 7 RX1 (TX1 1).2.1 (TX1 1).2.2.1 ∈ wsX1_mixTurns := by decide +kernel
  have fl_20 : Cond.fieldLink RX1 20 RX1 (TX1 4).2.1 (TX1 4).2.2.1 ∈ wsX1_mixTurns := by decide +kernel
  have fl_23 : Cond.fieldLink RX1 23 RX1 (TX1 5).2.1 (TX1 5).2.2.1 ∈ wsX1_mixTurns := by decide +kernel
  have fl_27 : Cond.fieldLink RX1 27 RX1 (TX1 7).2.1 (TX1 7).2.2.1 ∈ wsX1_mixTurns := by decide +kernel
  have fl_33 : Cond.fieldLink RX1 33 RX1 (TX1 9).2.1 (TX1 9).2.2.1 ∈ wsX1_mixTurns := by decide +kernel
  have hS : va_S (qA q) ss.heap ss.heap [] := va_S.rf
  generalize hHg : ss.heap = H at hP
  have hS : va_S (qA q) ss.heap H [] := by rw [← hHg]; exact hS
  suffices hgo : ∀ locs : List Loc, va_S (qA q) ss.heap H locs → W pp l ee rX1_mixTurns ss mm args below meth cd H locs 0 0 Q (F0 mm 0 ls []) by
    first | exact hgo [] hS | (rw [hHg]; exact hgo [] hS)
  clear hS
  intro locs hS
  have hl : lv_has ls 4 [(0, .ref (q 0))] := hl
  obtain ⟨HH, hHH⟩ : ∃ z, z = dgO w e (ralM (opn w) n inf e n (rt, fs)).1 (if psb n (opn w) inf out = true then (ltO n (opn w) n (pt, inf, out)).1 else noT) n n hh := ⟨_, rfl⟩
  refine lv_aload_n hx hb dX1_mixTurns_0 rfl (lv_at hl 0 rfl) ?_
  refine va_callv (va_runV (As := []) (rest := []) S (c_X1_layWhole hn hI hW hE hR hF ho.1 hq) (cwV 0 hts gX1_mixTurns_X1_layWhole rfl rfl rfl hdX1_layWhole ⟨Nat.le_of_ble_eq_true rfl, Nat.le_of_ble_eq_true rfl⟩) (preV hK hP rfl rfl) rfl rfl hl.1 rfl (lv_room (Nat.le_of_ble_eq_true rfl)) dX1_mixTurns_1 ⟨Nat.zero_le _, Nat.zero_le _⟩) hS (fun _ _ h => h) (fun _ h => h) (fun u_2 t H locs ht hvm hw_3 hB hz1 hk1 hS => ?_)
  replace hB : va_P D cls2 _ t.heap := hB
  rw [ht] at hB
  have hP : va_P D cls2 (mW q cI cD th (nI n) rC hh fi fo fw fe u_2.1 u_2.2 fp fl fc) H := hB
  refine lv_aload_n hx hb dX1_mixTurns_4 rfl (lv_at hl 0 rfl) ?_
  refine vp_callSi (W.runV (As := []) (rest := []) S (c_X1_arePossible hn hI hO hW) (cwV 0 hts gX1_mixTurns_X1_arePossible rfl rfl rfl hdX1_arePossible ⟨Nat.le_of_ble_eq_true rfl, Nat.le_of_ble_eq_true rfl⟩) (preV hK hP rfl rfl) rfl rfl hl.1 rfl (lv_room (Nat.le_of_ble_eq_true rfl)) dX1_mixTurns_5 ⟨Nat.zero_le _, Nat.zero_le _⟩) (fun r_4 er_4 => ?_)
  subst er_4
  refine lv_istore_n (lv' := [(1, .int (bI (psb n (opn w) inf out))), (0, .ref (q 0))]) hx hb dX1_mixTurns_8 rfl hl (by decide) rfl (fun ls hl => ?_)
  refine lv_iload_n hx hb dX1_mixTurns_9 rfl (lv_at hl 0 rfl) ?_
  refine w_ifBeq (tgt := 17) hx hb dX1_mixTurns_10 (by decide) (fun h10_0 => ?_) (fun h10_0 => ?_)
  · refine lv_iconst (v := nI 0) hx hb dX1_mixTurns_17 (by decide) ?_
    refine lv_istore_n (lv' := [(2, .int (nI 0)), (1, .int (bI (psb n (opn w) inf out))), (0, .ref (q 0))]) hx hb dX1_mixTurns_18 rfl hl (by decide) rfl (fun ls hl => ?_)
    have lp19 : ∀ (j i : Nat), i + j = n → ∀ (H : Heap) (locs : List Loc), va_P D cls2 (mW q cI cD th (nI n) rC (dgO w e (ralM (opn w) n inf e n (rt, fs)).1 noT n i hh) fi fo fw fe u_2.1 u_2.2 fp fl fc) H → va_S (qA q) ss.heap H locs → ∀ ls : Array Slot, lv_has ls 4 [(0, .ref (q 0)), (1, .int (bI (psb n (opn w) inf out))), (2, .int (nI i))] → W pp l ee rX1_mixTurns ss mm args below meth cd H locs 0 0 Q (F0 mm 19 ls []) := by
      intro j
      induction j with
      | zero =>
        intro i hk_i H locs hP hS ls hl
        have hke_i : n = i := by omega
        subst hke_i
        refine lv_iload_n hx hb dX1_mixTurns_19 rfl (lv_at hl 2 rfl) ?_
        refine lv_aload_n hx hb dX1_mixTurns_20 rfl (lv_at hl 0 rfl) ?_
        refine w_getM (own := RX1) (v := .int (nI n)) S in_w hK hP rfl 1 (by decide) fl_7 rfl rfl dX1_mixTurns_21 ?_
        refine lv_icmp_ge (tgt := 127) hx hb dX1_mixTurns_24 (by decide) (fun h24_1 => ?_) (fun h24_1 => absurd (Int32.le_refl _) h24_1)
        subst hQ
        have hP : va_P D cls2 (mW q cI cD th (nI n) rC (dgO w e (ralM (opn w) n inf e n (rt, fs)).1 (if psb n (opn w) inf out = true then (ltO n (opn w) n (pt, inf, out)).1 else noT) n n hh) fi fo fw fe u_2.1 u_2.2 fp fl fc) H := by rw [if_neg (by rw [h10_0]; decide)]; exact hP
        exact W.vret hx hb hr (fun t ht hWm => ⟨⟨(u_2.1, u_2.2, fp, fl, fc), rfl, ⟨hw_3.1, hw_3.2⟩, (show va_P D cls2 _ t.heap from by rw [ht]; exact hP)⟩, hS.F ht⟩) hS.2.2 dX1_mixTurns_127
      | succ j ih =>
        intro i hk_i H locs hP hS ls hl
        have hlt_i : i < n := by omega
        refine lv_iload_n hx hb dX1_mixTurns_19 rfl (lv_at hl 2 rfl) ?_
        refine lv_aload_n hx hb dX1_mixTurns_20 rfl (lv_at hl 0 rfl) ?_
        refine w_getM (own := RX1) (v := .int (nI n)) S in_w hK hP rfl 1 (by decide) fl_7 rfl rfl dX1_mixTurns_21 ?_
        refine lv_icmp_ge (tgt := 127) hx hb dX1_mixTurns_24 (by decide) (fun h24_1 => absurd h24_1 (nI_ge hlt_i (by omega))) (fun h24_1 => ?_)
        refine lv_iconst (v := nI 0) hx hb dX1_mixTurns_27 (by decide) ?_
        refine lv_istore_n (lv' := [(3, .int (nI 0)), (0, .ref (q 0)), (1, .int (bI (psb n (opn w) inf out))), (2, .int (nI i))]) hx hb dX1_mixTurns_28 rfl hl (by decide) rfl (fun ls hl => ?_)
        have lp29 : ∀ (j k : Nat), k + j = n → ∀ (H : Heap) (locs : List Loc), va_P D cls2 (mW q cI cD th (nI n) rC (dgI w e (ralM (opn w) n inf e n (rt, fs)).1 noT i k (dgO w e (ralM (opn w) n inf e n (rt, fs)).1 noT n i hh)) fi fo fw fe u_2.1 u_2.2 fp fl fc) H → va_S (qA q) ss.heap H locs → ∀ ls : Array Slot, lv_has ls 4 [(0, .ref (q 0)), (1, .int (bI (psb n (opn w) inf out))), (2, .int (nI i)), (3, .int (nI k))] → W pp l ee rX1_mixTurns ss mm args below meth cd H locs 0 0 Q (F0 mm 29 ls []) := by
          intro j
          induction j with
          | zero =>
            intro k hk_k H locs hP hS ls hl
            have hke_k : n = k := by omega
            subst hke_k
            refine lv_iload_n hx hb dX1_mixTurns_29 rfl (lv_at hl 3 rfl) ?_
            refine lv_aload_n hx hb dX1_mixTurns_30 rfl (lv_at hl 0 rfl) ?_
            refine w_getM (own := RX1) (v := .int (nI n)) S in_w hK hP rfl 1 (by decide) fl_7 rfl rfl dX1_mixTurns_31 ?_
            refine lv_icmp_ge (tgt := 121) hx hb dX1_mixTurns_34 (by decide) (fun h34_2 => ?_) (fun h34_2 => absurd (Int32.le_refl _) h34_2)
            refine lv_iinc (v := nI (i + 1)) (lv' := [(2, .int (nI (i + 1))), (0, .ref (q 0)), (1, .int (bI (psb n (opn w) inf out))), (3, .int (nI n))]) hx hb dX1_mixTurns_121 hl (k := 2) rfl (by rw [show Int32.ofInt 1 = nI 1 from by decide, nI_add]) (by decide) rfl (fun ls hl => ?_)
            refine lv_goto (tgt := 19) hx hb dX1_mixTurns_124 (by decide) ?_
            have eq_5 : dgO w e (ralM (opn w) n inf e n (rt, fs)).1 noT n (i + 1) hh = dgI w e (ralM (opn w) n inf e n (rt, fs)).1 noT i n (dgO w e (ralM (opn w) n inf e n (rt, fs)).1 noT n i hh) := by exact dgO_suc _ _ _ _ _ _ _
            rw [← eq_5] at hP
            exact ih (i + 1) (by omega) _ _ hP hS ls (lv_sub hl [1, 2, 0] rfl)
          | succ j ih =>
            intro k hk_k H locs hP hS ls hl
            have hlt_k : k < n := by omega
            refine lv_iload_n hx hb dX1_mixTurns_29 rfl (lv_at hl 3 rfl) ?_
            refine lv_aload_n hx hb dX1_mixTurns_30 rfl (lv_at hl 0 rfl) ?_
            refine w_getM (own := RX1) (v := .int (nI n)) S in_w hK hP rfl 1 (by decide) fl_7 rfl rfl dX1_mixTurns_31 ?_
            refine lv_icmp_ge (tgt := 121) hx hb dX1_mixTurns_34 (by decide) (fun h34_2 => absurd h34_2 (nI_ge hlt_k (by omega))) (fun h34_2 => ?_)
            refine lv_aload_n hx hb dX1_mixTurns_37 rfl (lv_at hl 0 rfl) ?_
            refine lv_aload_n hx hb dX1_mixTurns_38 rfl (lv_at hl 0 rfl) ?_
            refine w_getM (own := RX1) (v := .ref (q 3)) S in_w hK hP rfl 4 (by decide) fl_20 rfl rfl dX1_mixTurns_39 ?_
            refine lv_bipush (v := nI 6) hx hb dX1_mixTurns_42 (by decide) ?_
            refine lv_iload_n hx hb dX1_mixTurns_44 rfl (lv_at hl 2 rfl) ?_
            refine w_imulL (N := 6) (y := 0) hx hb rfl dX1_mixTurns_45 ?_
            refine lv_iload_n hx hb dX1_mixTurns_46 rfl (lv_at hl 3 rfl) ?_
            refine w_iadd hx hb dX1_mixTurns_47 ?_
            refine w_iald hx hb hK hP 3 0 rfl rfl (j := 6 * i + k) (v := w i k) (hW i k (by omega) (by omega)) (by omega) (by decide) dX1_mixTurns_48 ?_
            refine lv_i2l hx hb dX1_mixTurns_49 rfl ?_
            refine va_callv (va_runV (As := [.long (Int32.toInt64 (w i k))]) (rest := []) S (c_X1_mix (v := Int32.toInt64 (w i k)) hq) (cwV 1 hts gX1_mixTurns_X1_mix rfl rfl rfl hdX1_mix ⟨Nat.le_of_ble_eq_true rfl, Nat.le_of_ble_eq_true rfl⟩) (preV hK hP rfl rfl) rfl rfl hl.1 rfl (lv_room (Nat.le_of_ble_eq_true rfl)) dX1_mixTurns_50 ⟨Nat.zero_le _, Nat.zero_le _⟩) hS (fun _ _ h => h) (fun _ h => h) (fun u_7 t H locs ht hvm hw_8 hB hz1 hk1 hS => ?_)
            replace hB : va_P D cls2 _ t.heap := hB
            rw [ht] at hB
            have hP : va_P D cls2 (mW q cI cD th (nI n) rC (31 * (dgI w e (ralM (opn w) n inf e n (rt, fs)).1 noT i k (dgO w e (ralM (opn w) n inf e n (rt, fs)).1 noT n i hh)) + (Int32.toInt64 (w i k))) fi fo fw fe u_2.1 u_2.2 fp fl fc) H := hB
            refine lv_aload_n hx hb dX1_mixTurns_53 rfl (lv_at hl 0 rfl) ?_
            refine lv_aload_n hx hb dX1_mixTurns_54 rfl (lv_at hl 0 rfl) ?_
            refine w_getM (own := RX1) (v := .ref (q 4)) S in_w hK hP rfl 5 (by decide) fl_23 rfl rfl dX1_mixTurns_55 ?_
            refine lv_bipush (v := nI 6) hx hb dX1_mixTurns_58 (by decide) ?_
            refine lv_iload_n hx hb dX1_mixTurns_60 rfl (lv_at hl 2 rfl) ?_
            refine w_imulL (N := 6) (y := 0) hx hb rfl dX1_mixTurns_61 ?_
            refine lv_iload_n hx hb dX1_mixTurns_62 rfl (lv_at hl 3 rfl) ?_
            refine w_iadd hx hb dX1_mixTurns_63 ?_
            refine w_dald hx hb hK hP 4 1 rfl rfl (j := 6 * i + k) (v := e i k) (hE i k (by omega) (by omega)) (by omega) (by decide) dX1_mixTurns_64 ?_
            refine lv_ldc2d (v := 4652007308841189376) hx hb hown (hts (.constantDouble RX1 110 4652007308841189376) (by decide +kernel)) dX1_mixTurns_65 ?_
            refine lv_dmul hx hb dX1_mixTurns_68 (ho.2 i k (by omega) (by omega)) ?_
            refine lv_d2l hx hb dX1_mixTurns_69 ?_
            refine va_callv (va_runV (As := [.long (FP.d2l (FP.dmul (e i k) 4652007308841189376))]) (rest := []) S (c_X1_mix (v := FP.d2l (FP.dmul (e i k) 4652007308841189376)) hq) (cwV 1 hts gX1_mixTurns_X1_mix rfl rfl rfl hdX1_mix ⟨Nat.le_of_ble_eq_true rfl, Nat.le_of_ble_eq_true rfl⟩) (preV hK hP rfl rfl) rfl rfl hl.1 rfl (lv_room (Nat.le_of_ble_eq_true rfl)) dX1_mixTurns_70 ⟨Nat.zero_le _, Nat.zero_le _⟩) hS (fun _ _ h => h) (fun _ h => h) (fun u_10 t H locs ht hvm hw_11 hB hz1 hk1 hS => ?_)
            replace hB : va_P D cls2 _ t.heap := hB
            rw [ht] at hB
            have hP : va_P D cls2 (mW q cI cD th (nI n) rC (31 * (31 * (dgI w e (ralM (opn w) n inf e n (rt, fs)).1 noT i k (dgO w e (ralM (opn w) n inf e n (rt, fs)).1 noT n i hh)) + (Int32.toInt64 (w i k))) + (FP.d2l (FP.dmul (e i k) 4652007308841189376))) fi fo fw fe u_2.1 u_2.2 fp fl fc) H := hB
            refine lv_aload_n hx hb dX1_mixTurns_73 rfl (lv_at hl 0 rfl) ?_
            refine lv_aload_n hx hb dX1_mixTurns_74 rfl (lv_at hl 0 rfl) ?_
            refine w_getM (own := RX1) (v := .ref (q 5)) S in_w hK hP rfl 7 (by decide) fl_27 rfl rfl dX1_mixTurns_75 ?_
            refine lv_bipush (v := nI 6) hx hb dX1_mixTurns_78 (by decide) ?_
            refine lv_iload_n hx hb dX1_mixTurns_80 rfl (lv_at hl 2 rfl) ?_
            refine w_imulL (N := 6) (y := 0) hx hb rfl dX1_mixTurns_81 ?_
            refine lv_iload_n hx hb dX1_mixTurns_82 rfl (lv_at hl 3 rfl) ?_
            refine w_iadd hx hb dX1_mixTurns_83 ?_
            refine w_iald hx hb hK hP 5 0 rfl rfl (j := 6 * i + k) (v := ((ralM (opn w) n inf e n (rt, fs)).1) i k) (hw_3.1 i k (by omega) (by omega)) (by omega) (by decide) dX1_mixTurns_84 ?_
            refine lv_i2l hx hb dX1_mixTurns_85 rfl ?_
            refine va_callv (va_runV (As := [.long (Int32.toInt64 (((ralM (opn w) n inf e n (rt, fs)).1) i k))]) (rest := []) S (c_X1_mix (v := Int32.toInt64 (((ralM (opn w) n inf e n (rt, fs)).1) i k)) hq) (cwV 1 hts gX1_mixTurns_X1_mix rfl rfl rfl hdX1_mix ⟨Nat.le_of_ble_eq_true rfl, Nat.le_of_ble_eq_true rfl⟩) (preV hK hP rfl rfl) rfl rfl hl.1 rfl (lv_room (Nat.le_of_ble_eq_true rfl)) dX1_mixTurns_86 ⟨Nat.zero_le _, Nat.zero_le _⟩) hS (fun _ _ h => h) (fun _ h => h) (fun u_13 t H locs ht hvm hw_14 hB hz1 hk1 hS => ?_)
            replace hB : va_P D cls2 _ t.heap := hB
            rw [ht] at hB
            have hP : va_P D cls2 (mW q cI cD th (nI n) rC (31 * (31 * (31 * (dgI w e (ralM (opn w) n inf e n (rt, fs)).1 noT i k (dgO w e (ralM (opn w) n inf e n (rt, fs)).1 noT n i hh)) + (Int32.toInt64 (w i k))) + (FP.d2l (FP.dmul (e i k) 4652007308841189376))) + (Int32.toInt64 (((ralM (opn w) n inf e n (rt, fs)).1) i k))) fi fo fw fe u_2.1 u_2.2 fp fl fc) H := hB
            refine lv_aload_n hx hb dX1_mixTurns_89 rfl (lv_at hl 0 rfl) ?_
            refine lv_iload_n hx hb dX1_mixTurns_90 rfl (lv_at hl 1 rfl) ?_
            refine w_ifBeq (tgt := 109) hx hb dX1_mixTurns_91 (by decide) (fun h91_3 => ?_) (fun h91_3 => absurd (h10_0) (by rw [h91_3]; decide))
            refine lv_ldc2 (v := (-1)) hx hb hown (hts (.constantLong RX1 156 (-1)) (by decide +kernel)) dX1_mixTurns_109 ?_
            refine va_callv (va_runV (As := [.long (-1)]) (rest := []) S (c_X1_mix (v := (-1)) hq) (cwV 1 hts gX1_mixTurns_X1_mix rfl rfl rfl hdX1_mix ⟨Nat.le_of_ble_eq_true rfl, Nat.le_of_ble_eq_true rfl⟩) (preV hK hP rfl rfl) rfl rfl hl.1 rfl (lv_room (Nat.le_of_ble_eq_true rfl)) dX1_mixTurns_112 ⟨Nat.zero_le _, Nat.zero_le _⟩) hS (fun _ _ h => h) (fun _ h => h) (fun u_16 t H locs ht hvm hw_17 hB hz1 hk1 hS => ?_)
            replace hB : va_P D cls2 _ t.heap := hB
            rw [ht] at hB
            have hP : va_P D cls2 (mW q cI cD th (nI n) rC (31 * (31 * (31 * (31 * (dgI w e (ralM (opn w) n inf e n (rt, fs)).1 noT i k (dgO w e (ralM (opn w) n inf e n (rt, fs)).1 noT n i hh)) + (Int32.toInt64 (w i k))) + (FP.d2l (FP.dmul (e i k) 4652007308841189376))) + (Int32.toInt64 (((ralM (opn w) n inf e n (rt, fs)).1) i k))) + (-1)) fi fo fw fe u_2.1 u_2.2 fp fl fc) H := hB
            refine lv_iinc (v := nI (k + 1)) (lv' := [(3, .int (nI (k + 1))), (0, .ref (q 0)), (1, .int (bI (psb n (opn w) inf out))), (2, .int (nI i))]) hx hb dX1_mixTurns_115 hl (k := 3) rfl (by rw [show Int32.ofInt 1 = nI 1 from by decide, nI_add]) (by decide) rfl (fun ls hl => ?_)
            refine lv_goto (tgt := 29) hx hb dX1_mixTurns_118 (by decide) ?_
            have eq_18 : dgI w e (ralM (opn w) n inf e n (rt, fs)).1 noT i (k + 1) (dgO w e (ralM (opn w) n inf e n (rt, fs)).1 noT n i hh) = 31 * (31 * (31 * (31 * (dgI w e (ralM (opn w) n inf e n (rt, fs)).1 noT i k (dgO w e (ralM (opn w) n inf e n (rt, fs)).1 noT n i hh)) + (Int32.toInt64 (w i k))) + (FP.d2l (FP.dmul (e i k) 4652007308841189376))) + (Int32.toInt64 (((ralM (opn w) n inf e n (rt, fs)).1) i k))) + (-1) := by rfl
            rw [← eq_18] at hP
            exact ih (k + 1) (by omega) _ _ hP hS ls (lv_sub hl [1, 2, 3, 0] rfl)
        exact lp29 (n - 0) 0 (by omega) _ _ (by rw [dgI_zero]; exact hP) hS ls (lv_sub hl [1, 2, 3, 0] rfl)
    exact lp19 (n - 0) 0 (by omega) _ _ (by rw [dgO_zero]; exact hP) hS ls (lv_sub hl [2, 1, 0] rfl)
  · refine lv_aload_n hx hb dX1_mixTurns_13 rfl (lv_at hl 1 rfl) ?_
    refine va_callv (va_runV (As := []) (rest := []) S (c_X1_layTable hn hI hO hW hp hq) (cwV 0 hts gX1_mixTurns_X1_layTable rfl rfl rfl hdX1_layTable ⟨Nat.le_of_ble_eq_true rfl, Nat.le_of_ble_eq_true rfl⟩) (preV hK hP rfl rfl) rfl rfl hl.1 rfl (lv_room (Nat.le_of_ble_eq_true rfl)) dX1_mixTurns_14 ⟨Nat.zero_le _, Nat.zero_le _⟩) hS (fun _ _ h => h) (fun _ h => h) (fun u_20 t H locs ht hvm hw_21 hB hz1 hk1 hS => ?_)
    replace hB : va_P D cls2 _ t.heap := hB
    rw [ht] at hB
    have hP : va_P D cls2 (mW q cI cD th (nI n) rC hh fi fo fw fe u_2.1 u_2.2 u_20.1 u_20.2.1 u_20.2.2) H := hB
    refine lv_iconst (v := nI 0) hx hb dX1_mixTurns_17 (by decide) ?_
    refine lv_istore_n (lv' := [(2, .int (nI 0)), (1, .int (bI (psb n (opn w) inf out))), (0, .ref (q 0))]) hx hb dX1_mixTurns_18 rfl hl (by decide) rfl (fun ls hl => ?_)
    have lp19 : ∀ (j i : Nat), i + j = n → ∀ (H : Heap) (locs : List Loc), va_P D cls2 (mW q cI cD th (nI n) rC (dgO w e (ralM (opn w) n inf e n (rt, fs)).1 (ltO n (opn w) n (pt, inf, out)).1 n i hh) fi fo fw fe u_2.1 u_2.2 u_20.1 u_20.2.1 u_20.2.2) H → va_S (qA q) ss.heap H locs → ∀ ls : Array Slot, lv_has ls 4 [(0, .ref (q 0)), (1, .int (bI (psb n (opn w) inf out))), (2, .int (nI i))] → W pp l ee rX1_mixTurns ss mm args below meth cd H locs 0 0 Q (F0 mm 19 ls []) := by
      intro j
      induction j with
      | zero =>
        intro i hk_i H locs hP hS ls hl
        have hke_i : n = i := by omega
        subst hke_i
        refine lv_iload_n hx hb dX1_mixTurns_19 rfl (lv_at hl 2 rfl) ?_
        refine lv_aload_n hx hb dX1_mixTurns_20 rfl (lv_at hl 0 rfl) ?_
        refine w_getM (own := RX1) (v := .int (nI n)) S in_w hK hP rfl 1 (by decide) fl_7 rfl rfl dX1_mixTurns_21 ?_
        refine lv_icmp_ge (tgt := 127) hx hb dX1_mixTurns_24 (by decide) (fun h24_1 => ?_) (fun h24_1 => absurd (Int32.le_refl _) h24_1)
        subst hQ
        have hP : va_P D cls2 (mW q cI cD th (nI n) rC (dgO w e (ralM (opn w) n inf e n (rt, fs)).1 (if psb n (opn w) inf out = true then (ltO n (opn w) n (pt, inf, out)).1 else noT) n n hh) fi fo fw fe u_2.1 u_2.2 u_20.1 u_20.2.1 u_20.2.2) H := by rw [if_pos h10_0]; exact hP
        exact W.vret hx hb hr (fun t ht hWm => ⟨⟨(u_2.1, u_2.2, u_20.1, u_20.2.1, u_20.2.2), rfl, ⟨hw_3.1, hw_3.2⟩, (show va_P D cls2 _ t.heap from by rw [ht]; exact hP)⟩, hS.F ht⟩) hS.2.2 dX1_mixTurns_127
      | succ j ih =>
        intro i hk_i H locs hP hS ls hl
        have hlt_i : i < n := by omega
        refine lv_iload_n hx hb dX1_mixTurns_19 rfl (lv_at hl 2 rfl) ?_
        refine lv_aload_n hx hb dX1_mixTurns_20 rfl (lv_at hl 0 rfl) ?_
        refine w_getM (own := RX1) (v := .int (nI n)) S in_w hK hP rfl 1 (by decide) fl_7 rfl rfl dX1_mixTurns_21 ?_
        refine lv_icmp_ge (tgt := 127) hx hb dX1_mixTurns_24 (by decide) (fun h24_1 => absurd h24_1 (nI_ge hlt_i (by omega))) (fun h24_1 => ?_)
        refine lv_iconst (v := nI 0) hx hb dX1_mixTurns_27 (by decide) ?_
        refine lv_istore_n (lv' := [(3, .int (nI 0)), (0, .ref (q 0)), (1, .int (bI (psb n (opn w) inf out))), (2, .int (nI i))]) hx hb dX1_mixTurns_28 rfl hl (by decide) rfl (fun ls hl => ?_)
        have lp29 : ∀ (j k : Nat), k + j = n → ∀ (H : Heap) (locs : List Loc), va_P D cls2 (mW q cI cD th (nI n) rC (dgI w e (ralM (opn w) n inf e n (rt, fs)).1 (ltO n (opn w) n (pt, inf, out)).1 i k (dgO w e (ralM (opn w) n inf e n (rt, fs)).1 (ltO n (opn w) n (pt, inf, out)).1 n i hh)) fi fo fw fe u_2.1 u_2.2 u_20.1 u_20.2.1 u_20.2.2) H → va_S (qA q) ss.heap H locs → ∀ ls : Array Slot, lv_has ls 4 [(0, .ref (q 0)), (1, .int (bI (psb n (opn w) inf out))), (2, .int (nI i)), (3, .int (nI k))] → W pp l ee rX1_mixTurns ss mm args below meth cd H locs 0 0 Q (F0 mm 29 ls []) := by
          intro j
          induction j with
          | zero =>
            intro k hk_k H locs hP hS ls hl
            have hke_k : n = k := by omega
            subst hke_k
            refine lv_iload_n hx hb dX1_mixTurns_29 rfl (lv_at hl 3 rfl) ?_
            refine lv_aload_n hx hb dX1_mixTurns_30 rfl (lv_at hl 0 rfl) ?_
            refine w_getM (own := RX1) (v := .int (nI n)) S in_w hK hP rfl 1 (by decide) fl_7 rfl rfl dX1_mixTurns_31 ?_
            refine lv_icmp_ge (tgt := 121) hx hb dX1_mixTurns_34 (by decide) (fun h34_2 => ?_) (fun h34_2 => absurd (Int32.le_refl _) h34_2)
            refine lv_iinc (v := nI (i + 1)) (lv' := [(2, .int (nI (i + 1))), (0, .ref (q 0)), (1, .int (bI (psb n (opn w) inf out))), (3, .int (nI n))]) hx hb dX1_mixTurns_121 hl (k := 2) rfl (by rw [show Int32.ofInt 1 = nI 1 from by decide, nI_add]) (by decide) rfl (fun ls hl => ?_)
            refine lv_goto (tgt := 19) hx hb dX1_mixTurns_124 (by decide) ?_
            have eq_22 : dgO w e (ralM (opn w) n inf e n (rt, fs)).1 (ltO n (opn w) n (pt, inf, out)).1 n (i + 1) hh = dgI w e (ralM (opn w) n inf e n (rt, fs)).1 (ltO n (opn w) n (pt, inf, out)).1 i n (dgO w e (ralM (opn w) n inf e n (rt, fs)).1 (ltO n (opn w) n (pt, inf, out)).1 n i hh) := by exact dgO_suc _ _ _ _ _ _ _
            rw [← eq_22] at hP
            exact ih (i + 1) (by omega) _ _ hP hS ls (lv_sub hl [1, 2, 0] rfl)
          | succ j ih =>
            intro k hk_k H locs hP hS ls hl
            have hlt_k : k < n := by omega
            refine lv_iload_n hx hb dX1_mixTurns_29 rfl (lv_at hl 3 rfl) ?_
            refine lv_aload_n hx hb dX1_mixTurns_30 rfl (lv_at hl 0 rfl) ?_
            refine w_getM (own := RX1) (v := .int (nI n)) S in_w hK hP rfl 1 (by decide) fl_7 rfl rfl dX1_mixTurns_31 ?_
            refine lv_icmp_ge (tgt := 121) hx hb dX1_mixTurns_34 (by decide) (fun h34_2 => absurd h34_2 (nI_ge hlt_k (by omega))) (fun h34_2 => ?_)
            refine lv_aload_n hx hb dX1_mixTurns_37 rfl (lv_at hl 0 rfl) ?_
            refine lv_aload_n hx hb dX1_mixTurns_38 rfl (lv_at hl 0 rfl) ?_
            refine w_getM (own := RX1) (v := .ref (q 3)) S in_w hK hP rfl 4 (by decide) fl_20 rfl rfl dX1_mixTurns_39 ?_
            refine lv_bipush (v := nI 6) hx hb dX1_mixTurns_42 (by decide) ?_
            refine lv_iload_n hx hb dX1_mixTurns_44 rfl (lv_at hl 2 rfl) ?_
            refine w_imulL (N := 6) (y := 0) hx hb rfl dX1_mixTurns_45 ?_
            refine lv_iload_n hx hb dX1_mixTurns_46 rfl (lv_at hl 3 rfl) ?_
            refine w_iadd hx hb dX1_mixTurns_47 ?_
            refine w_iald hx hb hK hP 3 0 rfl rfl (j := 6 * i + k) (v := w i k) (hW i k (by omega) (by omega)) (by omega) (by decide) dX1_mixTurns_48 ?_
            refine lv_i2l hx hb dX1_mixTurns_49 rfl ?_
            refine va_callv (va_runV (As := [.long (Int32.toInt64 (w i k))]) (rest := []) S (c_X1_mix (v := Int32.toInt64 (w i k)) hq) (cwV 1 hts gX1_mixTurns_X1_mix rfl rfl rfl hdX1_mix ⟨Nat.le_of_ble_eq_true rfl, Nat.le_of_ble_eq_true rfl⟩) (preV hK hP rfl rfl) rfl rfl hl.1 rfl (lv_room (Nat.le_of_ble_eq_true rfl)) dX1_mixTurns_50 ⟨Nat.zero_le _, Nat.zero_le _⟩) hS (fun _ _ h => h) (fun _ h => h) (fun u_24 t H locs ht hvm hw_25 hB hz1 hk1 hS => ?_)
            replace hB : va_P D cls2 _ t.heap := hB
            rw [ht] at hB
            have hP : va_P D cls2 (mW q cI cD th (nI n) rC (31 * (dgI w e (ralM (opn w) n inf e n (rt, fs)).1 (ltO n (opn w) n (pt, inf, out)).1 i k (dgO w e (ralM (opn w) n inf e n (rt, fs)).1 (ltO n (opn w) n (pt, inf, out)).1 n i hh)) + (Int32.toInt64 (w i k))) fi fo fw fe u_2.1 u_2.2 u_20.1 u_20.2.1 u_20.2.2) H := hB
            refine lv_aload_n hx hb dX1_mixTurns_53 rfl (lv_at hl 0 rfl) ?_
            refine lv_aload_n hx hb dX1_mixTurns_54 rfl (lv_at hl 0 rfl) ?_
            refine w_getM (own := RX1) (v := .ref (q 4)) S in_w hK hP rfl 5 (by decide) fl_23 rfl rfl dX1_mixTurns_55 ?_
            refine lv_bipush (v := nI 6) hx hb dX1_mixTurns_58 (by decide) ?_
            refine lv_iload_n hx hb dX1_mixTurns_60 rfl (lv_at hl 2 rfl) ?_
            refine w_imulL (N := 6) (y := 0) hx hb rfl dX1_mixTurns_61 ?_
            refine lv_iload_n hx hb dX1_mixTurns_62 rfl (lv_at hl 3 rfl) ?_
            refine w_iadd hx hb dX1_mixTurns_63 ?_
            refine w_dald hx hb hK hP 4 1 rfl rfl (j := 6 * i + k) (v := e i k) (hE i k (by omega) (by omega)) (by omega) (by decide) dX1_mixTurns_64 ?_
            refine lv_ldc2d (v := 4652007308841189376) hx hb hown (hts (.constantDouble RX1 110 4652007308841189376) (by decide +kernel)) dX1_mixTurns_65 ?_
            refine lv_dmul hx hb dX1_mixTurns_68 (ho.2 i k (by omega) (by omega)) ?_
            refine lv_d2l hx hb dX1_mixTurns_69 ?_
            refine va_callv (va_runV (As := [.long (FP.d2l (FP.dmul (e i k) 4652007308841189376))]) (rest := []) S (c_X1_mix (v := FP.d2l (FP.dmul (e i k) 4652007308841189376)) hq) (cwV 1 hts gX1_mixTurns_X1_mix rfl rfl rfl hdX1_mix ⟨Nat.le_of_ble_eq_true rfl, Nat.le_of_ble_eq_true rfl⟩) (preV hK hP rfl rfl) rfl rfl hl.1 rfl (lv_room (Nat.le_of_ble_eq_true rfl)) dX1_mixTurns_70 ⟨Nat.zero_le _, Nat.zero_le _⟩) hS (fun _ _ h => h) (fun _ h => h) (fun u_27 t H locs ht hvm hw_28 hB hz1 hk1 hS => ?_)
            replace hB : va_P D cls2 _ t.heap := hB
            rw [ht] at hB
            have hP : va_P D cls2 (mW q cI cD th (nI n) rC (31 * (31 * (dgI w e (ralM (opn w) n inf e n (rt, fs)).1 (ltO n (opn w) n (pt, inf, out)).1 i k (dgO w e (ralM (opn w) n inf e n (rt, fs)).1 (ltO n (opn w) n (pt, inf, out)).1 n i hh)) + (Int32.toInt64 (w i k))) + (FP.d2l (FP.dmul (e i k) 4652007308841189376))) fi fo fw fe u_2.1 u_2.2 u_20.1 u_20.2.1 u_20.2.2) H := hB
            refine lv_aload_n hx hb dX1_mixTurns_73 rfl (lv_at hl 0 rfl) ?_
            refine lv_aload_n hx hb dX1_mixTurns_74 rfl (lv_at hl 0 rfl) ?_
            refine w_getM (own := RX1) (v := .ref (q 5)) S in_w hK hP rfl 7 (by decide) fl_27 rfl rfl dX1_mixTurns_75 ?_
            refine lv_bipush (v := nI 6) hx hb dX1_mixTurns_78 (by decide) ?_
            refine lv_iload_n hx hb dX1_mixTurns_80 rfl (lv_at hl 2 rfl) ?_
            refine w_imulL (N := 6) (y := 0) hx hb rfl dX1_mixTurns_81 ?_
            refine lv_iload_n hx hb dX1_mixTurns_82 rfl (lv_at hl 3 rfl) ?_
            refine w_iadd hx hb dX1_mixTurns_83 ?_
            refine w_iald hx hb hK hP 5 0 rfl rfl (j := 6 * i + k) (v := ((ralM (opn w) n inf e n (rt, fs)).1) i k) (hw_3.1 i k (by omega) (by omega)) (by omega) (by decide) dX1_mixTurns_84 ?_
            refine lv_i2l hx hb dX1_mixTurns_85 rfl ?_
            refine va_callv (va_runV (As := [.long (Int32.toInt64 (((ralM (opn w) n inf e n (rt, fs)).1) i k))]) (rest := []) S (c_X1_mix (v := Int32.toInt64 (((ralM (opn w) n inf e n (rt, fs)).1) i k)) hq) (cwV 1 hts gX1_mixTurns_X1_mix rfl rfl rfl hdX1_mix ⟨Nat.le_of_ble_eq_true rfl, Nat.le_of_ble_eq_true rfl⟩) (preV hK hP rfl rfl) rfl rfl hl.1 rfl (lv_room (Nat.le_of_ble_eq_true rfl)) dX1_mixTurns_86 ⟨Nat.zero_le _, Nat.zero_le _⟩) hS (fun _ _ h => h) (fun _ h => h) (fun u_30 t H locs ht hvm hw_31 hB hz1 hk1 hS => ?_)
            replace hB : va_P D cls2 _ t.heap := hB
            rw [ht] at hB
            have hP : va_P D cls2 (mW q cI cD th (nI n) rC (31 * (31 * (31 * (dgI w e (ralM (opn w) n inf e n (rt, fs)).1 (ltO n (opn w) n (pt, inf, out)).1 i k (dgO w e (ralM (opn w) n inf e n (rt, fs)).1 (ltO n (opn w) n (pt, inf, out)).1 n i hh)) + (Int32.toInt64 (w i k))) + (FP.d2l (FP.dmul (e i k) 4652007308841189376))) + (Int32.toInt64 (((ralM (opn w) n inf e n (rt, fs)).1) i k))) fi fo fw fe u_2.1 u_2.2 u_20.1 u_20.2.1 u_20.2.2) H := hB
            refine lv_aload_n hx hb dX1_mixTurns_89 rfl (lv_at hl 0 rfl) ?_
            refine lv_iload_n hx hb dX1_mixTurns_90 rfl (lv_at hl 1 rfl) ?_
            refine w_ifBeq (tgt := 109) hx hb dX1_mixTurns_91 (by decide) (fun h91_3 => absurd (h10_0) (by rw [h91_3]; decide)) (fun h91_3 => ?_)
            refine lv_aload_n hx hb dX1_mixTurns_94 rfl (lv_at hl 0 rfl) ?_
            refine w_getM (own := RX1) (v := .ref (q 7)) S in_w hK hP rfl 9 (by decide) fl_33 rfl rfl dX1_mixTurns_95 ?_
            refine lv_bipush (v := nI 6) hx hb dX1_mixTurns_98 (by decide) ?_
            refine lv_iload_n hx hb dX1_mixTurns_100 rfl (lv_at hl 2 rfl) ?_
            refine w_imulL (N := 6) (y := 0) hx hb rfl dX1_mixTurns_101 ?_
            refine lv_iload_n hx hb dX1_mixTurns_102 rfl (lv_at hl 3 rfl) ?_
            refine w_iadd hx hb dX1_mixTurns_103 ?_
            refine w_iald hx hb hK hP 7 0 rfl rfl (j := 6 * i + k) (v := ((ltO n (opn w) n (pt, inf, out)).1) i k) (hw_21 i k (by omega) (by omega)) (by omega) (by decide) dX1_mixTurns_104 ?_
            refine lv_i2l hx hb dX1_mixTurns_105 rfl ?_
            refine lv_goto (tgt := 112) hx hb dX1_mixTurns_106 (by decide) ?_
            refine va_callv (va_runV (As := [.long (Int32.toInt64 (((ltO n (opn w) n (pt, inf, out)).1) i k))]) (rest := []) S (c_X1_mix (v := Int32.toInt64 (((ltO n (opn w) n (pt, inf, out)).1) i k)) hq) (cwV 1 hts gX1_mixTurns_X1_mix rfl rfl rfl hdX1_mix ⟨Nat.le_of_ble_eq_true rfl, Nat.le_of_ble_eq_true rfl⟩) (preV hK hP rfl rfl) rfl rfl hl.1 rfl (lv_room (Nat.le_of_ble_eq_true rfl)) dX1_mixTurns_112 ⟨Nat.zero_le _, Nat.zero_le _⟩) hS (fun _ _ h => h) (fun _ h => h) (fun u_33 t H locs ht hvm hw_34 hB hz1 hk1 hS => ?_)
            replace hB : va_P D cls2 _ t.heap := hB
            rw [ht] at hB
            have hP : va_P D cls2 (mW q cI cD th (nI n) rC (31 * (31 * (31 * (31 * (dgI w e (ralM (opn w) n inf e n (rt, fs)).1 (ltO n (opn w) n (pt, inf, out)).1 i k (dgO w e (ralM (opn w) n inf e n (rt, fs)).1 (ltO n (opn w) n (pt, inf, out)).1 n i hh)) + (Int32.toInt64 (w i k))) + (FP.d2l (FP.dmul (e i k) 4652007308841189376))) + (Int32.toInt64 (((ralM (opn w) n inf e n (rt, fs)).1) i k))) + (Int32.toInt64 (((ltO n (opn w) n (pt, inf, out)).1) i k))) fi fo fw fe u_2.1 u_2.2 u_20.1 u_20.2.1 u_20.2.2) H := hB
            refine lv_iinc (v := nI (k + 1)) (lv' := [(3, .int (nI (k + 1))), (0, .ref (q 0)), (1, .int (bI (psb n (opn w) inf out))), (2, .int (nI i))]) hx hb dX1_mixTurns_115 hl (k := 3) rfl (by rw [show Int32.ofInt 1 = nI 1 from by decide, nI_add]) (by decide) rfl (fun ls hl => ?_)
            refine lv_goto (tgt := 29) hx hb dX1_mixTurns_118 (by decide) ?_
            have eq_35 : dgI w e (ralM (opn w) n inf e n (rt, fs)).1 (ltO n (opn w) n (pt, inf, out)).1 i (k + 1) (dgO w e (ralM (opn w) n inf e n (rt, fs)).1 (ltO n (opn w) n (pt, inf, out)).1 n i hh) = 31 * (31 * (31 * (31 * (dgI w e (ralM (opn w) n inf e n (rt, fs)).1 (ltO n (opn w) n (pt, inf, out)).1 i k (dgO w e (ralM (opn w) n inf e n (rt, fs)).1 (ltO n (opn w) n (pt, inf, out)).1 n i hh)) + (Int32.toInt64 (w i k))) + (FP.d2l (FP.dmul (e i k) 4652007308841189376))) + (Int32.toInt64 (((ralM (opn w) n inf e n (rt, fs)).1) i k))) + (Int32.toInt64 (((ltO n (opn w) n (pt, inf, out)).1) i k)) := by rfl
            rw [← eq_35] at hP
            exact ih (k + 1) (by omega) _ _ hP hS ls (lv_sub hl [1, 2, 3, 0] rfl)
        exact lp29 (n - 0) 0 (by omega) _ _ (by rw [dgI_zero]; exact hP) hS ls (lv_sub hl [1, 2, 3, 0] rfl)
    exact lp19 (n - 0) 0 (by omega) _ _ (by rw [dgO_zero]; exact hP) hS ls (lv_sub hl [2, 1, 0] rfl)
abbrev rX1_digest : Room := { frames := 4, cells := 0, slots := 0, locals := 97 }
theorem hdX1_digest : yX1_digest.cls = RX1 ∧ yX1_digest.cls ≠ "java/lang/invoke/MethodHandle" ∧ yX1_digest.cls ≠ "java/lang/invoke/VarHandle" ∧ (parseMethodDescriptor yX1_digest.desc).map (fun d => d.parameters.length) = some 0 := by decide +kernel
set_option maxHeartbeats 4000000 in
set_option maxRecDepth 100000 in
theorem c_X1_digest {l : Launch} {D : va_G} {q : Nat → Nat} {cI cD : ClassId} {th rC : Int32} {hh : Int64} {fi fo fw : Nat → Int32} {fe : Nat → UInt64} {fr : Nat → Int32} {ff : Nat → UInt64} {fp fl fc : Nat → Int32} {n : Nat} (hn : 3 ≤ n ∧ n ≤ 6) {inf : Nat → Int32} (hI : ag1 n fi inf) {out : Nat → Int32} (hO : ag1 n fo out) {w : Nat → Nat → Int32} (hW : ag2 n fw w) {e : Nat → Nat → UInt64} (hE : ag2 n fe e) {rt : Nat → Nat → Int32} (hR : ag2 n fr rt) {fs : Nat → UInt64} (hF : ag1 n ff fs) {pt : Nat → Nat → Int32} (hp : ag2 n fp pt) (ho : (∀ i : Nat, i < n → okX n inf e i) ∧ okF n inf out e ∧ vf_n64 (FP.dmul (misK n inf out e n) 4652007308841189376) ∧ ∀ i j : Nat, i < n → j < n → vf_n64 (FP.dmul (e i j) 4652007308841189376)) (hq : qD q) : Met l yX1_digest wsX1_digest rX1_digest (va_Pc [.ref (q 0)] (wPre D (tys2 cI cD) (mW q cI cD th (nI n) rC hh fi fo fw fe fr ff fp fl fc))) (va_Ql (fun r (u : Int64 × (Nat → Int32) × (Nat → UInt64) × (Nat → Int32) × (Nat → Int32) × (Nat → Int32)) => r = 31 * (31 * (31 * (31 * (31 * (31 * dgO w e (ralM (opn w) n inf e n (rt, fs)).1 (if psb n (opn w) inf out = true then (ltO n (opn w) n (pt, inf, out)).1 else noT) n n (dgA inf out n (31 * 1873 + Int32.toInt64 (nI n))) + (dif n inf out).toInt64) + (crd n (opn w) inf out).toInt64) + rC.toInt64) + FP.d2l (FP.dmul (misK n inf out e n) 4652007308841189376)) + (busO e n n).1.toInt64) + (mrD n (ralM (opn w) n inf e n (ralM (opn w) n inf e n (rt, fs))).1 out n).toInt64) (fun u t => va_P D cls2 (mW q cI cD (nI 0) (nI n) rC u.1 fi fo fw fe u.2.1 u.2.2.1 u.2.2.2.1 u.2.2.2.2.1 u.2.2.2.2.2) t.heap) (qA q)) 0 0 (qA q) := by
  refine met_intro (cc := cX1_digest) (maxL := 2) (ret := (some .long)) (own := RX1) (by decide) rfl rfl (Nat.le_of_ble_eq_true rfl) ?_
  intro pp ee ss mm args below meth cd Q ls hQ S hr hlocks hv hB hl
  obtain ⟨hx, hb, hml, hown, hts⟩ := id S
  obtain ⟨hP, hK⟩ := hB
  have in_w : ∀ w ∈ wsX10, w ∈ wsX1_digest := by decide +kernel
  have fl_7 : Cond.fieldLink RX1 7 RX1 (TX1 1).2.1 (TX1 1).2.2.1 ∈ wsX1_digest := by decide +kernel
  have fl_13 : Cond.fieldLink RX1 13 RX1 (TX1 2).2.1 (TX1 2).2.2.1 ∈ wsX1_digest := by decide +kernel
  have fl_17 : Cond.fieldLink RX1 17 RX1 (TX1 3).2.1 (TX1 3).2.2.1 ∈ wsX1_digest := by decide +kernel
  have fl_45 : Cond.fieldLink RX1 45 RX1 (TX1 0).2.1 (TX1 0).2.2.1 ∈ wsX1_digest := by decide +kernel
  have fl_52 : Cond.fieldLink RX1 52 RX1 (TX1 6).2.1 (TX1 6).2.2.1 ∈ wsX1_digest := by decide +kernel
  have fl_148 : Cond.fieldLink RX1 148 RX1 (TX1 12).2.1 (TX1 12).2.2.1 ∈ wsX1_digest := by decide +kernel
  have hS : va_S (qA q) ss.heap ss.heap [] := va_S.rf
  generalize hHg : ss.heap = H at hP
  have hS : va_S (qA q) ss.heap H [] := by rw [← hHg]; exact hS
  suffices hgo : ∀ locs : List Loc, va_S (qA q) ss.heap H locs → W pp l ee rX1_digest ss mm args below meth cd H locs 0 0 Q (F0 mm 0 ls []) by
    first | exact hgo [] hS | (rw [hHg]; exact hgo [] hS)
  clear hS
  intro locs hS
  have hl : lv_has ls 2 [(0, .ref (q 0))] := hl
  refine lv_aload_n hx hb dX1_digest_0 rfl (lv_at hl 0 rfl) ?_
  refine lv_iconst (v := nI 0) hx hb dX1_digest_1 (by decide) ?_
  refine w_putM (v := .int (nI 0)) (ty := .int) S in_w hK hP (wD_of hq rfl) hS rfl 0 (by decide) fl_45 rfl (by decide +kernel) rfl rfl (Nat.le_of_ble_eq_true rfl) rfl dX1_digest_2 (fun H locs hP hS => ?_)
  have hP : va_P D cls2 (mW q cI cD (nI 0) (nI n) rC hh fi fo fw fe fr ff fp fl fc) H := hP
  refine lv_aload_n hx hb dX1_digest_5 rfl (lv_at hl 0 rfl) ?_
  refine lv_ldc2 (v := 1873) hx hb hown (hts (.constantLong RX1 158 1873) (by decide +kernel)) dX1_digest_6 ?_
  refine w_putM (v := .long 1873) (ty := .long) S in_w hK hP (wD_of hq rfl) hS rfl 12 (by decide) fl_148 rfl (by decide +kernel) rfl rfl (Nat.le_of_ble_eq_true rfl) rfl dX1_digest_9 (fun H locs hP hS => ?_)
  have hP : va_P D cls2 (mW q cI cD (nI 0) (nI n) rC 1873 fi fo fw fe fr ff fp fl fc) H := hP
  refine lv_aload_n hx hb dX1_digest_12 rfl (lv_at hl 0 rfl) ?_
  refine lv_aload_n hx hb dX1_digest_13 rfl (lv_at hl 0 rfl) ?_
  refine w_getM (own := RX1) (v := .int (nI n)) S in_w hK hP rfl 1 (by decide) fl_7 rfl rfl dX1_digest_14 ?_
  refine lv_i2l hx hb dX1_digest_17 rfl ?_
  refine va_callv (va_runV (As := [.long (Int32.toInt64 (nI n))]) (rest := []) S (c_X1_mix (v := Int32.toInt64 (nI n)) hq) (cwV 1 hts gX1_digest_X1_mix rfl rfl rfl hdX1_mix ⟨Nat.le_of_ble_eq_true rfl, Nat.le_of_ble_eq_true rfl⟩) (preV hK hP rfl rfl) rfl rfl hl.1 rfl (lv_room (Nat.le_of_ble_eq_true rfl)) dX1_digest_18 ⟨Nat.zero_le _, Nat.zero_le _⟩) hS (fun _ _ h => h) (fun _ h => h) (fun u_2 t H locs ht hvm hw_3 hB hz1 hk1 hS => ?_)
  replace hB : va_P D cls2 _ t.heap := hB
  rw [ht] at hB
  have hP : va_P D cls2 (mW q cI cD (nI 0) (nI n) rC (31 * 1873 + (Int32.toInt64 (nI n))) fi fo fw fe fr ff fp fl fc) H := hB
  refine lv_iconst (v := nI 0) hx hb dX1_digest_21 (by decide) ?_
  refine lv_istore_n (lv' := [(1, .int (nI 0)), (0, .ref (q 0))]) hx hb dX1_digest_22 rfl hl (by decide) rfl (fun ls hl => ?_)
  have lp23 : ∀ (j k : Nat), k + j = n → ∀ (H : Heap) (locs : List Loc), va_P D cls2 (mW q cI cD (nI 0) (nI n) rC (dgA inf out k (31 * 1873 + Int32.toInt64 (nI n))) fi fo fw fe fr ff fp fl fc) H → va_S (qA q) ss.heap H locs → ∀ ls : Array Slot, lv_has ls 2 [(0, .ref (q 0)), (1, .int (nI k))] → W pp l ee rX1_digest ss mm args below meth cd H locs 0 0 Q (F0 mm 23 ls []) := by
    intro j
    induction j with
    | zero =>
      intro k hk_k H locs hP hS ls hl
      have hke_k : n = k := by omega
      subst hke_k
      refine lv_iload_n hx hb dX1_digest_23 rfl (lv_at hl 1 rfl) ?_
      refine lv_aload_n hx hb dX1_digest_24 rfl (lv_at hl 0 rfl) ?_
      refine w_getM (own := RX1) (v := .int (nI n)) S in_w hK hP rfl 1 (by decide) fl_7 rfl rfl dX1_digest_25 ?_
      refine lv_icmp_ge (tgt := 59) hx hb dX1_digest_28 (by decide) (fun h28_0 => ?_) (fun h28_0 => absurd (Int32.le_refl _) h28_0)
      refine lv_aload_n hx hb dX1_digest_59 rfl (lv_at hl 0 rfl) ?_
      refine va_callv (va_runV (As := []) (rest := []) S (c_X1_mixTurns hn hI hO hW hE hR hF hp ⟨ho.1, ho.2.2.2⟩ hq) (cwV 0 hts gX1_digest_X1_mixTurns rfl rfl rfl hdX1_mixTurns ⟨Nat.le_of_ble_eq_true rfl, Nat.le_of_ble_eq_true rfl⟩) (preV hK hP rfl rfl) rfl rfl hl.1 rfl (lv_room (Nat.le_of_ble_eq_true rfl)) dX1_digest_60 ⟨Nat.zero_le _, Nat.zero_le _⟩) hS (fun _ _ h => h) (fun _ h => h) (fun u_5 t H locs ht hvm hw_6 hB hz1 hk1 hS => ?_)
      replace hB : va_P D cls2 _ t.heap := hB
      rw [ht] at hB
      have hP : va_P D cls2 (mW q cI cD (nI 0) (nI n) rC (dgO w e (ralM (opn w) n inf e n (rt, fs)).1 (if psb n (opn w) inf out = true then (ltO n (opn w) n (pt, inf, out)).1 else noT) n n (dgA inf out n (31 * 1873 + Int32.toInt64 (nI n)))) fi fo fw fe u_5.1 u_5.2.1 u_5.2.2.1 u_5.2.2.2.1 u_5.2.2.2.2) H := hB
      refine lv_aload_n hx hb dX1_digest_63 rfl (lv_at hl 0 rfl) ?_
      refine lv_aload_n hx hb dX1_digest_64 rfl (lv_at hl 0 rfl) ?_
      refine vp_callSi (W.runV (As := []) (rest := [.ref (q 0)]) S (c_X1_difference hn hI hO) (cwV 0 hts gX1_digest_X1_difference rfl rfl rfl hdX1_difference ⟨Nat.le_of_ble_eq_true rfl, Nat.le_of_ble_eq_true rfl⟩) (preV hK hP rfl rfl) rfl rfl hl.1 rfl (lv_room (Nat.le_of_ble_eq_true rfl)) dX1_digest_65 ⟨Nat.zero_le _, Nat.zero_le _⟩) (fun r_7 er_7 => ?_)
      subst er_7
      refine lv_i2l hx hb dX1_digest_68 rfl ?_
      refine va_callv (va_runV (As := [.long (Int32.toInt64 (dif n inf out))]) (rest := []) S (c_X1_mix (v := Int32.toInt64 (dif n inf out)) hq) (cwV 1 hts gX1_digest_X1_mix rfl rfl rfl hdX1_mix ⟨Nat.le_of_ble_eq_true rfl, Nat.le_of_ble_eq_true rfl⟩) (preV hK hP rfl rfl) rfl rfl hl.1 rfl (lv_room (Nat.le_of_ble_eq_true rfl)) dX1_digest_69 ⟨Nat.zero_le _, Nat.zero_le _⟩) hS (fun _ _ h => h) (fun _ h => h) (fun u_9 t H locs ht hvm hw_10 hB hz1 hk1 hS => ?_)
      replace hB : va_P D cls2 _ t.heap := hB
      rw [ht] at hB
      have hP : va_P D cls2 (mW q cI cD (nI 0) (nI n) rC (31 * (dgO w e (ralM (opn w) n inf e n (rt, fs)).1 (if psb n (opn w) inf out = true then (ltO n (opn w) n (pt, inf, out)).1 else noT) n n (dgA inf out n (31 * 1873 + Int32.toInt64 (nI n)))) + (Int32.toInt64 (dif n inf out))) fi fo fw fe u_5.1 u_5.2.1 u_5.2.2.1 u_5.2.2.2.1 u_5.2.2.2.2) H := hB
      refine lv_aload_n hx hb dX1_digest_72 rfl (lv_at hl 0 rfl) ?_
      refine lv_aload_n hx hb dX1_digest_73 rfl (lv_at hl 0 rfl) ?_
      refine vp_callSi (W.runV (As := []) (rest := [.ref (q 0)]) S (c_X1_crowded hn hI hO hW) (cwV 0 hts gX1_digest_X1_crowded rfl rfl rfl hdX1_crowded ⟨Nat.le_of_ble_eq_true rfl, Nat.le_of_ble_eq_true rfl⟩) (preV hK hP rfl rfl) rfl rfl hl.1 rfl (lv_room (Nat.le_of_ble_eq_true rfl)) dX1_digest_74 ⟨Nat.zero_le _, Nat.zero_le _⟩) (fun r_11 er_11 => ?_)
      subst er_11
      refine lv_i2l hx hb dX1_digest_77 rfl ?_
      refine va_callv (va_runV (As := [.long (Int32.toInt64 (crd n (opn w) inf out))]) (rest := []) S (c_X1_mix (v := Int32.toInt64 (crd n (opn w) inf out)) hq) (cwV 1 hts gX1_digest_X1_mix rfl rfl rfl hdX1_mix ⟨Nat.le_of_ble_eq_true rfl, Nat.le_of_ble_eq_true rfl⟩) (preV hK hP rfl rfl) rfl rfl hl.1 rfl (lv_room (Nat.le_of_ble_eq_true rfl)) dX1_digest_78 ⟨Nat.zero_le _, Nat.zero_le _⟩) hS (fun _ _ h => h) (fun _ h => h) (fun u_13 t H locs ht hvm hw_14 hB hz1 hk1 hS => ?_)
      replace hB : va_P D cls2 _ t.heap := hB
      rw [ht] at hB
      have hP : va_P D cls2 (mW q cI cD (nI 0) (nI n) rC (31 * (31 * (dgO w e (ralM (opn w) n inf e n (rt, fs)).1 (if psb n (opn w) inf out = true then (ltO n (opn w) n (pt, inf, out)).1 else noT) n n (dgA inf out n (31 * 1873 + Int32.toInt64 (nI n)))) + (Int32.toInt64 (dif n inf out))) + (Int32.toInt64 (crd n (opn w) inf out))) fi fo fw fe u_5.1 u_5.2.1 u_5.2.2.1 u_5.2.2.2.1 u_5.2.2.2.2) H := hB
      refine lv_aload_n hx hb dX1_digest_81 rfl (lv_at hl 0 rfl) ?_
      refine lv_aload_n hx hb dX1_digest_82 rfl (lv_at hl 0 rfl) ?_
      refine w_getM (own := RX1) (v := .int rC) S in_w hK hP rfl 6 (by decide) fl_52 rfl rfl dX1_digest_83 ?_
      refine lv_i2l hx hb dX1_digest_86 rfl ?_
      refine va_callv (va_runV (As := [.long (Int32.toInt64 rC)]) (rest := []) S (c_X1_mix (v := Int32.toInt64 rC) hq) (cwV 1 hts gX1_digest_X1_mix rfl rfl rfl hdX1_mix ⟨Nat.le_of_ble_eq_true rfl, Nat.le_of_ble_eq_true rfl⟩) (preV hK hP rfl rfl) rfl rfl hl.1 rfl (lv_room (Nat.le_of_ble_eq_true rfl)) dX1_digest_87 ⟨Nat.zero_le _, Nat.zero_le _⟩) hS (fun _ _ h => h) (fun _ h => h) (fun u_16 t H locs ht hvm hw_17 hB hz1 hk1 hS => ?_)
      replace hB : va_P D cls2 _ t.heap := hB
      rw [ht] at hB
      have hP : va_P D cls2 (mW q cI cD (nI 0) (nI n) rC (31 * (31 * (31 * (dgO w e (ralM (opn w) n inf e n (rt, fs)).1 (if psb n (opn w) inf out = true then (ltO n (opn w) n (pt, inf, out)).1 else noT) n n (dgA inf out n (31 * 1873 + Int32.toInt64 (nI n)))) + (Int32.toInt64 (dif n inf out))) + (Int32.toInt64 (crd n (opn w) inf out))) + (Int32.toInt64 rC)) fi fo fw fe u_5.1 u_5.2.1 u_5.2.2.1 u_5.2.2.2.1 u_5.2.2.2.2) H := hB
      refine lv_aload_n hx hb dX1_digest_90 rfl (lv_at hl 0 rfl) ?_
      refine lv_aload_n hx hb dX1_digest_91 rfl (lv_at hl 0 rfl) ?_
      refine vp_callSd (W.runV (As := []) (rest := [.ref (q 0)]) S (c_X1_misfitNow hn hI hO hE ho.2.1) (cwV 0 hts gX1_digest_X1_misfitNow rfl rfl rfl hdX1_misfitNow ⟨Nat.le_of_ble_eq_true rfl, Nat.le_of_ble_eq_true rfl⟩) (preV hK hP rfl rfl) rfl rfl hl.1 rfl (lv_room (Nat.le_of_ble_eq_true rfl)) dX1_digest_92 ⟨Nat.zero_le _, Nat.zero_le _⟩) (fun r_18 er_18 => ?_)
      subst er_18
      refine lv_ldc2d (v := 4652007308841189376) hx hb hown (hts (.constantDouble RX1 110 4652007308841189376) (by decide +kernel)) dX1_digest_95 ?_
      refine lv_dmul hx hb dX1_digest_98 ho.2.2.1 ?_
      refine lv_d2l hx hb dX1_digest_99 ?_
      refine va_callv (va_runV (As := [.long (FP.d2l (FP.dmul (misK n inf out e n) 4652007308841189376))]) (rest := []) S (c_X1_mix (v := FP.d2l (FP.dmul (misK n inf out e n) 4652007308841189376)) hq) (cwV 1 hts gX1_digest_X1_mix rfl rfl rfl hdX1_mix ⟨Nat.le_of_ble_eq_true rfl, Nat.le_of_ble_eq_true rfl⟩) (preV hK hP rfl rfl) rfl rfl hl.1 rfl (lv_room (Nat.le_of_ble_eq_true rfl)) dX1_digest_100 ⟨Nat.zero_le _, Nat.zero_le _⟩) hS (fun _ _ h => h) (fun _ h => h) (fun u_20 t H locs ht hvm hw_21 hB hz1 hk1 hS => ?_)
      replace hB : va_P D cls2 _ t.heap := hB
      rw [ht] at hB
      have hP : va_P D cls2 (mW q cI cD (nI 0) (nI n) rC (31 * (31 * (31 * (31 * (dgO w e (ralM (opn w) n inf e n (rt, fs)).1 (if psb n (opn w) inf out = true then (ltO n (opn w) n (pt, inf, out)).1 else noT) n n (dgA inf out n (31 * 1873 + Int32.toInt64 (nI n)))) + (Int32.toInt64 (dif n inf out))) + (Int32.toInt64 (crd n (opn w) inf out))) + (Int32.toInt64 rC)) + (FP.d2l (FP.dmul (misK n inf out e n) 4652007308841189376))) fi fo fw fe u_5.1 u_5.2.1 u_5.2.2.1 u_5.2.2.2.1 u_5.2.2.2.2) H := hB
      refine lv_aload_n hx hb dX1_digest_103 rfl (lv_at hl 0 rfl) ?_
      refine lv_aload_n hx hb dX1_digest_104 rfl (lv_at hl 0 rfl) ?_
      refine vp_callSi (W.runV (As := []) (rest := [.ref (q 0)]) S (c_X1_busiest hn hE) (cwV 0 hts gX1_digest_X1_busiest rfl rfl rfl hdX1_busiest ⟨Nat.le_of_ble_eq_true rfl, Nat.le_of_ble_eq_true rfl⟩) (preV hK hP rfl rfl) rfl rfl hl.1 rfl (lv_room (Nat.le_of_ble_eq_true rfl)) dX1_digest_105 ⟨Nat.zero_le _, Nat.zero_le _⟩) (fun r_22 er_22 => ?_)
      subst er_22
      refine lv_i2l hx hb dX1_digest_108 rfl ?_
      refine va_callv (va_runV (As := [.long (Int32.toInt64 ((busO e n n).1))]) (rest := []) S (c_X1_mix (v := Int32.toInt64 ((busO e n n).1)) hq) (cwV 1 hts gX1_digest_X1_mix rfl rfl rfl hdX1_mix ⟨Nat.le_of_ble_eq_true rfl, Nat.le_of_ble_eq_true rfl⟩) (preV hK hP rfl rfl) rfl rfl hl.1 rfl (lv_room (Nat.le_of_ble_eq_true rfl)) dX1_digest_109 ⟨Nat.zero_le _, Nat.zero_le _⟩) hS (fun _ _ h => h) (fun _ h => h) (fun u_24 t H locs ht hvm hw_25 hB hz1 hk1 hS => ?_)
      replace hB : va_P D cls2 _ t.heap := hB
      rw [ht] at hB
      have hP : va_P D cls2 (mW q cI cD (nI 0) (nI n) rC (31 * (31 * (31 * (31 * (31 * (dgO w e (ralM (opn w) n inf e n (rt, fs)).1 (if psb n (opn w) inf out = true then (ltO n (opn w) n (pt, inf, out)).1 else noT) n n (dgA inf out n (31 * 1873 + Int32.toInt64 (nI n)))) + (Int32.toInt64 (dif n inf out))) + (Int32.toInt64 (crd n (opn w) inf out))) + (Int32.toInt64 rC)) + (FP.d2l (FP.dmul (misK n inf out e n) 4652007308841189376))) + (Int32.toInt64 ((busO e n n).1))) fi fo fw fe u_5.1 u_5.2.1 u_5.2.2.1 u_5.2.2.2.1 u_5.2.2.2.2) H := hB
      refine lv_aload_n hx hb dX1_digest_112 rfl (lv_at hl 0 rfl) ?_
      refine lv_aload_n hx hb dX1_digest_113 rfl (lv_at hl 0 rfl) ?_
      refine va_calli (va_runV (As := []) (rest := [.ref (q 0)]) S (c_X1_wholeMisfit hn hI hO hW hE hw_6.1 hw_6.2 ho.1 hq) (cwV 0 hts gX1_digest_X1_wholeMisfit rfl rfl rfl hdX1_wholeMisfit ⟨Nat.le_of_ble_eq_true rfl, Nat.le_of_ble_eq_true rfl⟩) (preV hK hP rfl rfl) rfl rfl hl.1 rfl (lv_room (Nat.le_of_ble_eq_true rfl)) dX1_digest_114 ⟨Nat.zero_le _, Nat.zero_le _⟩) hS (fun _ _ h => h) (fun _ h => h) (fun r_26 u_27 t H locs ht hvm hw_28 hB hz1 hk1 hS => ?_)
      replace hB : va_P D cls2 _ t.heap := hB
      rw [ht] at hB
      have he_29 := hw_28.1
      subst he_29
      have hP : va_P D cls2 (mW q cI cD (nI 0) (nI n) rC (31 * (31 * (31 * (31 * (31 * (dgO w e (ralM (opn w) n inf e n (rt, fs)).1 (if psb n (opn w) inf out = true then (ltO n (opn w) n (pt, inf, out)).1 else noT) n n (dgA inf out n (31 * 1873 + Int32.toInt64 (nI n)))) + (Int32.toInt64 (dif n inf out))) + (Int32.toInt64 (crd n (opn w) inf out))) + (Int32.toInt64 rC)) + (FP.d2l (FP.dmul (misK n inf out e n) 4652007308841189376))) + (Int32.toInt64 ((busO e n n).1))) fi fo fw fe u_27.1 u_27.2 u_5.2.2.1 u_5.2.2.2.1 u_5.2.2.2.2) H := hB
      refine lv_i2l hx hb dX1_digest_117 rfl ?_
      refine va_callv (va_runV (As := [.long (Int32.toInt64 (mrD n (ralM (opn w) n inf e n (((ralM (opn w) n inf e n (rt, fs)).1), ((ralM (opn w) n inf e n (rt, fs)).2))).1 out n))]) (rest := []) S (c_X1_mix (v := Int32.toInt64 (mrD n (ralM (opn w) n inf e n (((ralM (opn w) n inf e n (rt, fs)).1), ((ralM (opn w) n inf e n (rt, fs)).2))).1 out n)) hq) (cwV 1 hts gX1_digest_X1_mix rfl rfl rfl hdX1_mix ⟨Nat.le_of_ble_eq_true rfl, Nat.le_of_ble_eq_true rfl⟩) (preV hK hP rfl rfl) rfl rfl hl.1 rfl (lv_room (Nat.le_of_ble_eq_true rfl)) dX1_digest_118 ⟨Nat.zero_le _, Nat.zero_le _⟩) hS (fun _ _ h => h) (fun _ h => h) (fun u_31 t H locs ht hvm hw_32 hB hz1 hk1 hS => ?_)
      replace hB : va_P D cls2 _ t.heap := hB
      rw [ht] at hB
      have hP : va_P D cls2 (mW q cI cD (nI 0) (nI n) rC (31 * (31 * (31 * (31 * (31 * (31 * (dgO w e (ralM (opn w) n inf e n (rt, fs)).1 (if psb n (opn w) inf out = true then (ltO n (opn w) n (pt, inf, out)).1 else noT) n n (dgA inf out n (31 * 1873 + Int32.toInt64 (nI n)))) + (Int32.toInt64 (dif n inf out))) + (Int32.toInt64 (crd n (opn w) inf out))) + (Int32.toInt64 rC)) + (FP.d2l (FP.dmul (misK n inf out e n) 4652007308841189376))) + (Int32.toInt64 ((busO e n n).1))) + (Int32.toInt64 (mrD n (ralM (opn w) n inf e n (((ralM (opn w) n inf e n (rt, fs)).1), ((ralM (opn w) n inf e n (rt, fs)).2))).1 out n))) fi fo fw fe u_27.1 u_27.2 u_5.2.2.1 u_5.2.2.2.1 u_5.2.2.2.2) H := hB
      refine lv_aload_n hx hb dX1_digest_121 rfl (lv_at hl 0 rfl) ?_
      refine w_getM (own := RX1) (v := .long (31 * (31 * (31 * (31 * (31 * (31 * (dgO w e (ralM (opn w) n inf e n (rt, fs)).1 (if psb n (opn w) inf out = true then (ltO n (opn w) n (pt, inf, out)).1 else noT) n n (dgA inf out n (31 * 1873 + Int32.toInt64 (nI n)))) + (Int32.toInt64 (dif n inf out))) + (Int32.toInt64 (crd n (opn w) inf out))) + (Int32.toInt64 rC)) + (FP.d2l (FP.dmul (misK n inf out e n) 4652007308841189376))) + (Int32.toInt64 ((busO e n n).1))) + (Int32.toInt64 (mrD n (ralM (opn w) n inf e n (((ralM (opn w) n inf e n (rt, fs)).1), ((ralM (opn w) n inf e n (rt, fs)).2))).1 out n)))) S in_w hK hP rfl 12 (by decide) fl_148 rfl rfl dX1_digest_122 ?_
      subst hQ
      exact W.lret hx hb hr (fun t ht hWm => ⟨⟨_, (31 * (31 * (31 * (31 * (31 * (31 * (dgO w e (ralM (opn w) n inf e n (rt, fs)).1 (if psb n (opn w) inf out = true then (ltO n (opn w) n (pt, inf, out)).1 else noT) n n (dgA inf out n (31 * 1873 + Int32.toInt64 (nI n)))) + (Int32.toInt64 (dif n inf out))) + (Int32.toInt64 (crd n (opn w) inf out))) + (Int32.toInt64 rC)) + (FP.d2l (FP.dmul (misK n inf out e n) 4652007308841189376))) + (Int32.toInt64 ((busO e n n).1))) + (Int32.toInt64 (mrD n (ralM (opn w) n inf e n (((ralM (opn w) n inf e n (rt, fs)).1), ((ralM (opn w) n inf e n (rt, fs)).2))).1 out n)), u_27.1, u_27.2, u_5.2.2.1, u_5.2.2.2.1, u_5.2.2.2.2), rfl, rfl, (show va_P D cls2 _ t.heap from by rw [ht]; exact hP)⟩, hS.F ht⟩) hS.2.2 dX1_digest_125
    | succ j ih =>
      intro k hk_k H locs hP hS ls hl
      have hlt_k : k < n := by omega
      refine lv_iload_n hx hb dX1_digest_23 rfl (lv_at hl 1 rfl) ?_
      refine lv_aload_n hx hb dX1_digest_24 rfl (lv_at hl 0 rfl) ?_
      refine w_getM (own := RX1) (v := .int (nI n)) S in_w hK hP rfl 1 (by decide) fl_7 rfl rfl dX1_digest_25 ?_
      refine lv_icmp_ge (tgt := 59) hx hb dX1_digest_28 (by decide) (fun h28_0 => absurd h28_0 (nI_ge hlt_k (by omega))) (fun h28_0 => ?_)
      refine lv_aload_n hx hb dX1_digest_31 rfl (lv_at hl 0 rfl) ?_
      refine lv_aload_n hx hb dX1_digest_32 rfl (lv_at hl 0 rfl) ?_
      refine w_getM (own := RX1) (v := .ref (q 1)) S in_w hK hP rfl 2 (by decide) fl_13 rfl rfl dX1_digest_33 ?_
      refine lv_iload_n hx hb dX1_digest_36 rfl (lv_at hl 1 rfl) ?_
      refine w_iald hx hb hK hP 1 0 rfl rfl (j := k) (v := inf k) (hI k (by omega)) (by omega) (by decide) dX1_digest_37 ?_
      refine lv_i2l hx hb dX1_digest_38 rfl ?_
      refine va_callv (va_runV (As := [.long (Int32.toInt64 (inf k))]) (rest := []) S (c_X1_mix (v := Int32.toInt64 (inf k)) hq) (cwV 1 hts gX1_digest_X1_mix rfl rfl rfl hdX1_mix ⟨Nat.le_of_ble_eq_true rfl, Nat.le_of_ble_eq_true rfl⟩) (preV hK hP rfl rfl) rfl rfl hl.1 rfl (lv_room (Nat.le_of_ble_eq_true rfl)) dX1_digest_39 ⟨Nat.zero_le _, Nat.zero_le _⟩) hS (fun _ _ h => h) (fun _ h => h) (fun u_34 t H locs ht hvm hw_35 hB hz1 hk1 hS => ?_)
      replace hB : va_P D cls2 _ t.heap := hB
      rw [ht] at hB
      have hP : va_P D cls2 (mW q cI cD (nI 0) (nI n) rC (31 * (dgA inf out k (31 * 1873 + Int32.toInt64 (nI n))) + (Int32.toInt64 (inf k))) fi fo fw fe fr ff fp fl fc) H := hB
      refine lv_aload_n hx hb dX1_digest_42 rfl (lv_at hl 0 rfl) ?_
      refine lv_aload_n hx hb dX1_digest_43 rfl (lv_at hl 0 rfl) ?_
      refine w_getM (own := RX1) (v := .ref (q 2)) S in_w hK hP rfl 3 (by decide) fl_17 rfl rfl dX1_digest_44 ?_
      refine lv_iload_n hx hb dX1_digest_47 rfl (lv_at hl 1 rfl) ?_
      refine w_iald hx hb hK hP 2 0 rfl rfl (j := k) (v := out k) (hO k (by omega)) (by omega) (by decide) dX1_digest_48 ?_
      refine lv_i2l hx hb dX1_digest_49 rfl ?_
      refine va_callv (va_runV (As := [.long (Int32.toInt64 (out k))]) (rest := []) S (c_X1_mix (v := Int32.toInt64 (out k)) hq) (cwV 1 hts gX1_digest_X1_mix rfl rfl rfl hdX1_mix ⟨Nat.le_of_ble_eq_true rfl, Nat.le_of_ble_eq_true rfl⟩) (preV hK hP rfl rfl) rfl rfl hl.1 rfl (lv_room (Nat.le_of_ble_eq_true rfl)) dX1_digest_50 ⟨Nat.zero_le _, Nat.zero_le _⟩) hS (fun _ _ h => h) (fun _ h => h) (fun u_37 t H locs ht hvm hw_38 hB hz1 hk1 hS => ?_)
      replace hB : va_P D cls2 _ t.heap := hB
      rw [ht] at hB
      have hP : va_P D cls2 (mW q cI cD (nI 0) (nI n) rC (31 * (31 * (dgA inf out k (31 * 1873 + Int32.toInt64 (nI n))) + (Int32.toInt64 (inf k))) + (Int32.toInt64 (out k))) fi fo fw fe fr ff fp fl fc) H := hB
      refine lv_iinc (v := nI (k + 1)) (lv' := [(1, .int (nI (k + 1))), (0, .ref (q 0))]) hx hb dX1_digest_53 hl (k := 1) rfl (by rw [show Int32.ofInt 1 = nI 1 from by decide, nI_add]) (by decide) rfl (fun ls hl => ?_)
      refine lv_goto (tgt := 23) hx hb dX1_digest_56 (by decide) ?_
      have eq_39 : dgA inf out (k + 1) (31 * 1873 + Int32.toInt64 (nI n)) = 31 * (31 * (dgA inf out k (31 * 1873 + Int32.toInt64 (nI n))) + (Int32.toInt64 (inf k))) + (Int32.toInt64 (out k)) := by rfl
      rw [← eq_39] at hP
      exact ih (k + 1) (by omega) _ _ hP hS ls (lv_sub hl [1, 0] rfl)
  exact lp23 (n - 0) 0 (by omega) _ _ hP hS ls (lv_sub hl [1, 0] rfl)
