abbrev rX1_nextOf : Room := { frames := 0, cells := 0, slots := 0, locals := 0 }
theorem hdX1_nextOf : yX1_nextOf.cls = RX1 ∧ yX1_nextOf.cls ≠ "java/lang/invoke/MethodHandle" ∧ yX1_nextOf.cls ≠ "java/lang/invoke/VarHandle" ∧ (parseMethodDescriptor yX1_nextOf.desc).map (fun d => d.parameters.length) = some 1 := by decide +kernel
set_option maxHeartbeats 4000000 in
set_option maxRecDepth 100000 in
theorem c_X1_nextOf {l : Launch} {D : va_G} {q : Nat → Nat} {cI cD : ClassId} {th rC : Int32} {hh : Int64} {fi fo fw : Nat → Int32} {fe : Nat → UInt64} {fr : Nat → Int32} {ff : Nat → UInt64} {fp fl fc : Nat → Int32} {n : Nat} (hn : 3 ≤ n ∧ n ≤ 6) {w : Nat → Nat → Int32} (hW : ag2 n fw w) {fs : Nat → UInt64} (hF : ag1 n ff fs) {i : Nat} (hi : i < n) : Met l yX1_nextOf wsX1_nextOf rX1_nextOf (va_Pc [.ref (q 0), .int (nI i)] (wPre D (tys2 cI cD) (mW q cI cD th (nI n) rC hh fi fo fw fe fr ff fp fl fc))) (vp_Si (fun r => r = nxt (opn w) fs i n)) 0 0 (fun _ => False) := by
  refine met_intro (cc := cX1_nextOf) (maxL := 5) (ret := (some .int)) (own := RX1) (by decide) rfl rfl (Nat.le_of_ble_eq_true rfl) ?_
  intro pp ee ss mm args below meth cd Q ls hQ S hr hlocks hv hB hl
  obtain ⟨hx, hb, hml, hown, hts⟩ := id S
  obtain ⟨hP, hK⟩ := hB
  have in_w : ∀ w ∈ wsX10, w ∈ wsX1_nextOf := by decide +kernel
  have fl_7 : Cond.fieldLink RX1 7 RX1 (TX1 1).2.1 (TX1 1).2.2.1 ∈ wsX1_nextOf := by decide +kernel
  have fl_20 : Cond.fieldLink RX1 20 RX1 (TX1 4).2.1 (TX1 4).2.2.1 ∈ wsX1_nextOf := by decide +kernel
  have fl_30 : Cond.fieldLink RX1 30 RX1 (TX1 8).2.1 (TX1 8).2.2.1 ∈ wsX1_nextOf := by decide +kernel
  have hl : lv_has ls 5 [(0, .ref (q 0)), (1, .int (nI i))] := hl
  refine lv_iconst (v := -1) hx hb dX1_nextOf_0 (by decide) ?_
  refine lv_istore_n (lv' := [(2, .int (-1)), (0, .ref (q 0)), (1, .int (nI i))]) hx hb dX1_nextOf_1 rfl hl (by decide) rfl (fun ls hl => ?_)
  refine lv_iconst (v := nI 0) hx hb dX1_nextOf_2 (by decide) ?_
  refine lv_istore_n (lv' := [(3, .int (nI 0)), (2, .int (-1)), (0, .ref (q 0)), (1, .int (nI i))]) hx hb dX1_nextOf_3 rfl hl (by decide) rfl (fun ls hl => ?_)
  have lp4 : ∀ (j k : Nat), k + j = n → ∀ ls : Array Slot, lv_has ls 5 [(0, .ref (q 0)), (1, .int (nI i)), (2, .int (nxt (opn w) fs i k)), (3, .int (nI k))] → W pp l ee rX1_nextOf ss mm args below meth cd ss.heap [] 0 0 Q (F0 mm 4 ls []) := by
    intro j
    induction j with
    | zero =>
      intro k hk_k ls hl
      have hke_k : n = k := by omega
      subst hke_k
      refine lv_iload_n hx hb dX1_nextOf_4 rfl (lv_at hl 3 rfl) ?_
      refine lv_aload_n hx hb dX1_nextOf_5 rfl (lv_at hl 0 rfl) ?_
      refine w_getM (own := RX1) (v := .int (nI n)) S in_w hK hP rfl 1 (by decide) fl_7 rfl rfl dX1_nextOf_6 ?_
      refine lv_icmp_ge (tgt := 82) hx hb dX1_nextOf_9 (by decide) (fun h9_0 => ?_) (fun h9_0 => absurd (Int32.le_refl _) h9_0)
      refine lv_iload_n hx hb dX1_nextOf_82 rfl (lv_at hl 2 rfl) ?_
      subst hQ
      exact W.iret hx hb hr (fun t ht hWm => ⟨_, rfl, rfl, ht⟩) (fun q h => absurd h List.not_mem_nil) dX1_nextOf_83
    | succ j ih =>
      intro k hk_k ls hl
      have hlt_k : k < n := by omega
      refine lv_iload_n hx hb dX1_nextOf_4 rfl (lv_at hl 3 rfl) ?_
      refine lv_aload_n hx hb dX1_nextOf_5 rfl (lv_at hl 0 rfl) ?_
      refine w_getM (own := RX1) (v := .int (nI n)) S in_w hK hP rfl 1 (by decide) fl_7 rfl rfl dX1_nextOf_6 ?_
      refine lv_icmp_ge (tgt := 82) hx hb dX1_nextOf_9 (by decide) (fun h9_0 => absurd h9_0 (nI_ge hlt_k (by omega))) (fun h9_0 => ?_)
      refine lv_aload_n hx hb dX1_nextOf_12 rfl (lv_at hl 0 rfl) ?_
      refine w_getM (own := RX1) (v := .ref (q 3)) S in_w hK hP rfl 4 (by decide) fl_20 rfl rfl dX1_nextOf_13 ?_
      refine lv_bipush (v := nI 6) hx hb dX1_nextOf_16 (by decide) ?_
      refine lv_iload_n hx hb dX1_nextOf_18 rfl (lv_at hl 1 rfl) ?_
      refine w_imulL (N := 6) (y := 0) hx hb rfl dX1_nextOf_19 ?_
      refine lv_iload_n hx hb dX1_nextOf_20 rfl (lv_at hl 3 rfl) ?_
      refine w_iadd hx hb dX1_nextOf_21 ?_
      refine w_iald hx hb hK hP 3 0 rfl rfl (j := 6 * i + k) (v := w i k) (hW i k (by omega) (by omega)) (by omega) (by decide) dX1_nextOf_22 ?_
      refine w_ifW (w := w) i k (tgt := 41) hx hb dX1_nextOf_23 (by decide) (fun h23_1 => ?_) (fun h23_1 => ?_)
      · refine lv_iconst (v := nI 0) hx hb dX1_nextOf_41 (by decide) ?_
        refine lv_istore (lv' := [(4, .int (nI 0)), (0, .ref (q 0)), (1, .int (nI i)), (2, .int (nxt (opn w) fs i k)), (3, .int (nI k))]) hx hb dX1_nextOf_42 hl (by decide) rfl (fun ls hl => ?_)
        refine lv_iload hx hb dX1_nextOf_44 (lv_at hl 0 rfl) ?_
        refine lv_if_eq (tgt := 74) hx hb dX1_nextOf_46 (by decide) (fun h46_2 => ?_) (fun h46_2 => absurd (by decide) h46_2)
        refine lv_iload_n hx hb dX1_nextOf_74 rfl (lv_at hl 3 rfl) ?_
        refine lv_istore_n (lv' := [(2, .int (nxt (opn w) fs i k)), (4, .int (nI 0)), (0, .ref (q 0)), (1, .int (nI i)), (3, .int (nI k))]) hx hb dX1_nextOf_75 rfl hl (by decide) rfl (fun ls hl => ?_)
        refine lv_iinc (v := nI (k + 1)) (lv' := [(3, .int (nI (k + 1))), (2, .int (nxt (opn w) fs i k)), (4, .int (nI 0)), (0, .ref (q 0)), (1, .int (nI i))]) hx hb dX1_nextOf_76 hl (k := 4) rfl (by rw [show Int32.ofInt 1 = nI 1 from by decide, nI_add]) (by decide) rfl (fun ls hl => ?_)
        refine lv_goto (tgt := 4) hx hb dX1_nextOf_79 (by decide) ?_
        have eq_1 : nxt (opn w) fs i (k + 1) = nxt (opn w) fs i k := by exact nxt_a h23_1
        have hl : lv_has ls 5 [(3, .int (nI (k + 1))), (2, .int (nxt (opn w) fs i (k + 1))), (4, .int (nI 0)), (0, .ref (q 0)), (1, .int (nI i))] := by first | exact hl | (rw [eq_1]; exact hl)
        exact ih (k + 1) (by omega) ls (lv_sub hl [3, 4, 1, 0] rfl)
      · refine lv_aload_n hx hb dX1_nextOf_26 rfl (lv_at hl 0 rfl) ?_
        refine w_getM (own := RX1) (v := .ref (q 6)) S in_w hK hP rfl 8 (by decide) fl_30 rfl rfl dX1_nextOf_27 ?_
        refine lv_iload_n hx hb dX1_nextOf_30 rfl (lv_at hl 3 rfl) ?_
        refine w_dald hx hb hK hP 6 1 rfl rfl (j := k) (v := fs k) (hF k (by omega)) (by omega) (by decide) dX1_nextOf_31 ?_
        refine lv_dconst0 hx hb dX1_nextOf_32 ?_
        refine w_dge (tgt := 41) hx hb dX1_nextOf_33 dX1_nextOf_34 (by decide) (fun h33_2 => ?_) (fun h33_2 => ?_)
        · refine lv_iconst (v := nI 0) hx hb dX1_nextOf_41 (by decide) ?_
          refine lv_istore (lv' := [(4, .int (nI 0)), (0, .ref (q 0)), (1, .int (nI i)), (2, .int (nxt (opn w) fs i k)), (3, .int (nI k))]) hx hb dX1_nextOf_42 hl (by decide) rfl (fun ls hl => ?_)
          refine lv_iload hx hb dX1_nextOf_44 (lv_at hl 0 rfl) ?_
          refine lv_if_eq (tgt := 74) hx hb dX1_nextOf_46 (by decide) (fun h46_3 => ?_) (fun h46_3 => absurd (by decide) h46_3)
          refine lv_iload_n hx hb dX1_nextOf_74 rfl (lv_at hl 3 rfl) ?_
          refine lv_istore_n (lv' := [(2, .int (nxt (opn w) fs i k)), (4, .int (nI 0)), (0, .ref (q 0)), (1, .int (nI i)), (3, .int (nI k))]) hx hb dX1_nextOf_75 rfl hl (by decide) rfl (fun ls hl => ?_)
          refine lv_iinc (v := nI (k + 1)) (lv' := [(3, .int (nI (k + 1))), (2, .int (nxt (opn w) fs i k)), (4, .int (nI 0)), (0, .ref (q 0)), (1, .int (nI i))]) hx hb dX1_nextOf_76 hl (k := 4) rfl (by rw [show Int32.ofInt 1 = nI 1 from by decide, nI_add]) (by decide) rfl (fun ls hl => ?_)
          refine lv_goto (tgt := 4) hx hb dX1_nextOf_79 (by decide) ?_
          have eq_2 : nxt (opn w) fs i (k + 1) = nxt (opn w) fs i k := by exact nxt_b h23_1 h33_2
          have hl : lv_has ls 5 [(3, .int (nI (k + 1))), (2, .int (nxt (opn w) fs i (k + 1))), (4, .int (nI 0)), (0, .ref (q 0)), (1, .int (nI i))] := by first | exact hl | (rw [eq_2]; exact hl)
          exact ih (k + 1) (by omega) ls (lv_sub hl [3, 4, 1, 0] rfl)
        · refine lv_iconst (v := nI 1) hx hb dX1_nextOf_37 (by decide) ?_
          refine lv_goto (tgt := 42) hx hb dX1_nextOf_38 (by decide) ?_
          refine lv_istore (lv' := [(4, .int (nI 1)), (0, .ref (q 0)), (1, .int (nI i)), (2, .int (nxt (opn w) fs i k)), (3, .int (nI k))]) hx hb dX1_nextOf_42 hl (by decide) rfl (fun ls hl => ?_)
          refine lv_iload hx hb dX1_nextOf_44 (lv_at hl 0 rfl) ?_
          refine lv_if_eq (tgt := 74) hx hb dX1_nextOf_46 (by decide) (fun h46_3 => absurd h46_3 (by decide)) (fun h46_3 => ?_)
          refine lv_iload_n hx hb dX1_nextOf_49 rfl (lv_at hl 3 rfl) ?_
          refine lv_iconst (v := -1) hx hb dX1_nextOf_50 (by decide) ?_
          refine lv_icmp_eq (tgt := 70) hx hb dX1_nextOf_51 (by decide) (fun h51_4 => ?_) (fun h51_4 => ?_)
          · refine lv_iload_n hx hb dX1_nextOf_70 rfl (lv_at hl 4 rfl) ?_
            refine lv_goto (tgt := 75) hx hb dX1_nextOf_71 (by decide) ?_
            refine lv_istore_n (lv' := [(2, .int (nI k)), (4, .int (nI 1)), (0, .ref (q 0)), (1, .int (nI i)), (3, .int (nI k))]) hx hb dX1_nextOf_75 rfl hl (by decide) rfl (fun ls hl => ?_)
            refine lv_iinc (v := nI (k + 1)) (lv' := [(3, .int (nI (k + 1))), (2, .int (nI k)), (4, .int (nI 1)), (0, .ref (q 0)), (1, .int (nI i))]) hx hb dX1_nextOf_76 hl (k := 4) rfl (by rw [show Int32.ofInt 1 = nI 1 from by decide, nI_add]) (by decide) rfl (fun ls hl => ?_)
            refine lv_goto (tgt := 4) hx hb dX1_nextOf_79 (by decide) ?_
            have eq_3 : nxt (opn w) fs i (k + 1) = nI k := by exact nxt_c h23_1 h33_2 h51_4
            have hl : lv_has ls 5 [(3, .int (nI (k + 1))), (2, .int (nxt (opn w) fs i (k + 1))), (4, .int (nI 1)), (0, .ref (q 0)), (1, .int (nI i))] := by first | exact hl | (rw [eq_3]; exact hl)
            exact ih (k + 1) (by omega) ls (lv_sub hl [3, 4, 1, 0] rfl)
          · obtain ⟨jb, hjb, ejb⟩ := nxt_at h51_4
            rw [ejb] at hl
            have hl : lv_has ls 5 [(4, .int (nI 1)), (0, .ref (q 0)), (1, .int (nI i)), (2, .int (nI jb)), (3, .int (nI k))] := hl
            refine lv_aload_n hx hb dX1_nextOf_54 rfl (lv_at hl 1 rfl) ?_
            refine w_getM (own := RX1) (v := .ref (q 6)) S in_w hK hP rfl 8 (by decide) fl_30 rfl rfl dX1_nextOf_55 ?_
            refine lv_iload_n hx hb dX1_nextOf_58 rfl (lv_at hl 4 rfl) ?_
            refine w_dald hx hb hK hP 6 1 rfl rfl (j := k) (v := fs k) (hF k (by omega)) (by omega) (by decide) dX1_nextOf_59 ?_
            refine lv_aload_n hx hb dX1_nextOf_60 rfl (lv_at hl 1 rfl) ?_
            refine w_getM (own := RX1) (v := .ref (q 6)) S in_w hK hP rfl 8 (by decide) fl_30 rfl rfl dX1_nextOf_61 ?_
            refine lv_iload_n hx hb dX1_nextOf_64 rfl (lv_at hl 3 rfl) ?_
            refine w_dald hx hb hK hP 6 1 rfl rfl (j := jb) (v := fs jb) (hF jb (by omega)) (by omega) (by decide) dX1_nextOf_65 ?_
            refine w_dgt (tgt := 74) hx hb dX1_nextOf_66 dX1_nextOf_67 (by decide) (fun h66_5 => ?_) (fun h66_5 => ?_)
            · refine lv_iload_n hx hb dX1_nextOf_74 rfl (lv_at hl 3 rfl) ?_
              refine lv_istore_n (lv' := [(2, .int (nI jb)), (4, .int (nI 1)), (0, .ref (q 0)), (1, .int (nI i)), (3, .int (nI k))]) hx hb dX1_nextOf_75 rfl hl (by decide) rfl (fun ls hl => ?_)
              refine lv_iinc (v := nI (k + 1)) (lv' := [(3, .int (nI (k + 1))), (2, .int (nI jb)), (4, .int (nI 1)), (0, .ref (q 0)), (1, .int (nI i))]) hx hb dX1_nextOf_76 hl (k := 4) rfl (by rw [show Int32.ofInt 1 = nI 1 from by decide, nI_add]) (by decide) rfl (fun ls hl => ?_)
              refine lv_goto (tgt := 4) hx hb dX1_nextOf_79 (by decide) ?_
              have eq_4 : nxt (opn w) fs i (k + 1) = nI jb := by first | exact nxt_d h23_1 h33_2 h51_4 ejb (by omega) h66_5 | exact nxt_e h23_1 h33_2 h51_4 ejb (by omega) h66_5
              have hl : lv_has ls 5 [(3, .int (nI (k + 1))), (2, .int (nxt (opn w) fs i (k + 1))), (4, .int (nI 1)), (0, .ref (q 0)), (1, .int (nI i))] := by first | exact hl | (rw [eq_4]; exact hl)
              exact ih (k + 1) (by omega) ls (lv_sub hl [3, 4, 1, 0] rfl)
            · refine lv_iload_n hx hb dX1_nextOf_70 rfl (lv_at hl 4 rfl) ?_
              refine lv_goto (tgt := 75) hx hb dX1_nextOf_71 (by decide) ?_
              refine lv_istore_n (lv' := [(2, .int (nI k)), (4, .int (nI 1)), (0, .ref (q 0)), (1, .int (nI i)), (3, .int (nI k))]) hx hb dX1_nextOf_75 rfl hl (by decide) rfl (fun ls hl => ?_)
              refine lv_iinc (v := nI (k + 1)) (lv' := [(3, .int (nI (k + 1))), (2, .int (nI k)), (4, .int (nI 1)), (0, .ref (q 0)), (1, .int (nI i))]) hx hb dX1_nextOf_76 hl (k := 4) rfl (by rw [show Int32.ofInt 1 = nI 1 from by decide, nI_add]) (by decide) rfl (fun ls hl => ?_)
              refine lv_goto (tgt := 4) hx hb dX1_nextOf_79 (by decide) ?_
              have eq_5 : nxt (opn w) fs i (k + 1) = nI k := by first | exact nxt_d h23_1 h33_2 h51_4 ejb (by omega) h66_5 | exact nxt_e h23_1 h33_2 h51_4 ejb (by omega) h66_5
              have hl : lv_has ls 5 [(3, .int (nI (k + 1))), (2, .int (nxt (opn w) fs i (k + 1))), (4, .int (nI 1)), (0, .ref (q 0)), (1, .int (nI i))] := by first | exact hl | (rw [eq_5]; exact hl)
              exact ih (k + 1) (by omega) ls (lv_sub hl [3, 4, 1, 0] rfl)
  exact lp4 (n - 0) 0 (by omega) ls (lv_sub hl [2, 3, 1, 0] rfl)
abbrev rX1_roundRow : Room := { frames := 1, cells := 0, slots := 0, locals := 24 }
theorem hdX1_roundRow : yX1_roundRow.cls = RX1 ∧ yX1_roundRow.cls ≠ "java/lang/invoke/MethodHandle" ∧ yX1_roundRow.cls ≠ "java/lang/invoke/VarHandle" ∧ (parseMethodDescriptor yX1_roundRow.desc).map (fun d => d.parameters.length) = some 1 := by decide +kernel
set_option maxHeartbeats 4000000 in
set_option maxRecDepth 100000 in
theorem c_X1_roundRow {l : Launch} {D : va_G} {q : Nat → Nat} {cI cD : ClassId} {th rC : Int32} {hh : Int64} {fi fo fw : Nat → Int32} {fe : Nat → UInt64} {fr : Nat → Int32} {ff : Nat → UInt64} {fp fl fc : Nat → Int32} {n : Nat} (hn : 3 ≤ n ∧ n ≤ 6) {inf : Nat → Int32} (hI : ag1 n fi inf) {w : Nat → Nat → Int32} (hW : ag2 n fw w) {e : Nat → Nat → UInt64} (hE : ag2 n fe e) {rt : Nat → Nat → Int32} (hR : ag2 n fr rt) {fs : Nat → UInt64} (hF : ag1 n ff fs) {i : Nat} (hi : i < n) (ho : okX n inf e i) (hq : qD q) : Met l yX1_roundRow wsX1_roundRow rX1_roundRow (va_Pc [.ref (q 0), .int (nI i)] (wPre D (tys2 cI cD) (mW q cI cD th (nI n) rC hh fi fo fw fe fr ff fp fl fc))) (va_Qv (fun (u : (Nat → Int32) × (Nat → UInt64)) => ag2 n u.1 (rrwM (opn w) n inf e i (rt, fs)).1 ∧ ag1 n u.2 (rrwM (opn w) n inf e i (rt, fs)).2) (fun u t => va_P D cls2 (mW q cI cD th (nI n) rC hh fi fo fw fe u.1 u.2 fp fl fc) t.heap) (qA q)) 0 0 (qA q) := by
  refine met_intro (cc := cX1_roundRow) (maxL := 8) (ret := none) (own := RX1) (by decide) rfl rfl (Nat.le_of_ble_eq_true rfl) ?_
  intro pp ee ss mm args below meth cd Q ls hQ S hr hlocks hv hB hl
  obtain ⟨hx, hb, hml, hown, hts⟩ := id S
  obtain ⟨hP, hK⟩ := hB
  have in_w : ∀ w ∈ wsX10, w ∈ wsX1_roundRow := by decide +kernel
  have fl_7 : Cond.fieldLink RX1 7 RX1 (TX1 1).2.1 (TX1 1).2.2.1 ∈ wsX1_roundRow := by decide +kernel
  have fl_13 : Cond.fieldLink RX1 13 RX1 (TX1 2).2.1 (TX1 2).2.2.1 ∈ wsX1_roundRow := by decide +kernel
  have fl_23 : Cond.fieldLink RX1 23 RX1 (TX1 5).2.1 (TX1 5).2.2.1 ∈ wsX1_roundRow := by decide +kernel
  have fl_27 : Cond.fieldLink RX1 27 RX1 (TX1 7).2.1 (TX1 7).2.2.1 ∈ wsX1_roundRow := by decide +kernel
  have fl_30 : Cond.fieldLink RX1 30 RX1 (TX1 8).2.1 (TX1 8).2.2.1 ∈ wsX1_roundRow := by decide +kernel
  have hS : va_S (qA q) ss.heap ss.heap [] := va_S.rf
  generalize hHg : ss.heap = H at hP
  have hS : va_S (qA q) ss.heap H [] := by rw [← hHg]; exact hS
  suffices hgo : ∀ locs : List Loc, va_S (qA q) ss.heap H locs → W pp l ee rX1_roundRow ss mm args below meth cd H locs 0 0 Q (F0 mm 0 ls []) by
    first | exact hgo [] hS | (rw [hHg]; exact hgo [] hS)
  clear hS
  intro locs hS
  have hl : lv_has ls 8 [(0, .ref (q 0)), (1, .int (nI i))] := hl
  refine lv_aload_n hx hb dX1_roundRow_0 rfl (lv_at hl 0 rfl) ?_
  refine lv_iload_n hx hb dX1_roundRow_1 rfl (lv_at hl 1 rfl) ?_
  refine vp_callSd (W.runV (As := [.int (nI i)]) (rest := []) S (c_X1_rowSum hn hE (i := i) (by omega) ho.1) (cwV 1 hts gX1_roundRow_X1_rowSum rfl rfl rfl hdX1_rowSum ⟨Nat.le_of_ble_eq_true rfl, Nat.le_of_ble_eq_true rfl⟩) (preV hK hP rfl rfl) rfl rfl hl.1 rfl (lv_room (Nat.le_of_ble_eq_true rfl)) dX1_roundRow_2 ⟨Nat.zero_le _, Nat.zero_le _⟩) (fun r_1 er_1 => ?_)
  subst er_1
  refine lv_dstore_n (lv' := [(2, .double (rowS e n i)), (0, .ref (q 0)), (1, .int (nI i))]) hx hb dX1_roundRow_5 rfl hl (by decide) rfl (fun ls hl => ?_)
  refine lv_iconst (v := nI 0) hx hb dX1_roundRow_6 (by decide) ?_
  refine lv_istore (lv' := [(4, .int (nI 0)), (2, .double (rowS e n i)), (0, .ref (q 0)), (1, .int (nI i))]) hx hb dX1_roundRow_7 hl (by decide) rfl (fun ls hl => ?_)
  refine lv_iconst (v := nI 0) hx hb dX1_roundRow_9 (by decide) ?_
  refine lv_istore (lv' := [(5, .int (nI 0)), (4, .int (nI 0)), (2, .double (rowS e n i)), (0, .ref (q 0)), (1, .int (nI i))]) hx hb dX1_roundRow_10 hl (by decide) rfl (fun ls hl => ?_)
  have lp12 : ∀ (j k : Nat), k + j = n → ∀ (fr : Nat → Int32), ∀ (ff : Nat → UInt64), ∀ (H : Heap) (locs : List Loc), ag2 n fr (rrT n inf e i k rt) → ag1 n ff (rrF n inf e i k fs) → va_P D cls2 (mW q cI cD th (nI n) rC hh fi fo fw fe fr ff fp fl fc) H → va_S (qA q) ss.heap H locs → ∀ ls : Array Slot, lv_has ls 8 [(0, .ref (q 0)), (1, .int (nI i)), (2, .double (rowS e n i)), (4, .int (rrS n inf e i k)), (5, .int (nI k))] → W pp l ee rX1_roundRow ss mm args below meth cd H locs 0 0 Q (F0 mm 12 ls []) := by
    intro j
    induction j with
    | zero =>
      intro k hk_k fr ff H locs hg_fr hg_ff hP hS ls hl
      have hke_k : n = k := by omega
      subst hke_k
      refine lv_iload hx hb dX1_roundRow_12 (lv_at hl 4 rfl) ?_
      refine lv_aload_n hx hb dX1_roundRow_14 rfl (lv_at hl 0 rfl) ?_
      refine w_getM (own := RX1) (v := .int (nI n)) S in_w hK hP rfl 1 (by decide) fl_7 rfl rfl dX1_roundRow_15 ?_
      refine lv_icmp_ge (tgt := 116) hx hb dX1_roundRow_18 (by decide) (fun h18_0 => ?_) (fun h18_0 => absurd (Int32.le_refl _) h18_0)
      refine lv_aload_n hx hb dX1_roundRow_116 rfl (lv_at hl 0 rfl) ?_
      refine lv_iload_n hx hb dX1_roundRow_117 rfl (lv_at hl 1 rfl) ?_
      refine vp_callSi (W.runV (As := [.int (nI i)]) (rest := []) S (c_X1_nextOf hn hW hg_ff (i := i) (by omega)) (cwV 1 hts gX1_roundRow_X1_nextOf rfl rfl rfl hdX1_nextOf ⟨Nat.le_of_ble_eq_true rfl, Nat.le_of_ble_eq_true rfl⟩) (preV hK hP rfl rfl) rfl rfl hl.1 rfl (lv_room (Nat.le_of_ble_eq_true rfl)) dX1_roundRow_118 ⟨Nat.zero_le _, Nat.zero_le _⟩) (fun r_2 er_2 => ?_)
      subst er_2
      refine lv_istore (lv' := [(5, .int (nxt (opn w) (rrF n inf e i n fs) i n)), (0, .ref (q 0)), (1, .int (nI i)), (2, .double (rowS e n i)), (4, .int (rrS n inf e i n))]) hx hb dX1_roundRow_121 hl (by decide) rfl (fun ls hl => ?_)
      rcases Bool.eq_false_or_eq_true (dgt (rowS e n i) FP.dconst0) with hsd | hsd
      · obtain ⟨RES, hRES⟩ : ∃ z, z = rsM (opn w) i n (msg (inf i) (rrS n inf e i n)) ((rrT n inf e i n rt), (rrF n inf e i n fs)) := ⟨_, rfl⟩
        have lp123 : ∀ (j : Nat) (sm : Int32) (rt : Nat → Nat → Int32) (fs : Nat → UInt64) (fr : Nat → Int32) (ff : Nat → UInt64) (H : Heap) (locs : List Loc), j = msg (inf i) sm → rsM (opn w) i n j (rt, fs) = RES → ag2 n fr rt → ag1 n ff fs → va_P D cls2 (mW q cI cD th (nI n) rC hh fi fo fw fe fr ff fp fl fc) H → va_S (qA q) ss.heap H locs → ∀ ls : Array Slot, lv_has ls 8 [(0, .ref (q 0)), (1, .int (nI i)), (2, .double (rowS e n i)), (4, .int sm), (5, .int (nxt (opn w) fs i n))] → W pp l ee rX1_roundRow ss mm args below meth cd H locs 0 0 Q (F0 mm 123 ls []) := by
          intro j
          induction j with
          | zero =>
            intro sm rt fs fr ff H locs hj hres hg_fr hg_ff hP hS ls hl
            refine lv_dload_n hx hb dX1_roundRow_123 rfl (lv_at hl 2 rfl) ?_
            refine lv_dconst0 hx hb dX1_roundRow_124 ?_
            refine w_dgt (tgt := 185) hx hb dX1_roundRow_125 dX1_roundRow_126 (by decide) (fun h125_1 => absurd (hsd) (by rw [h125_1]; decide)) (fun h125_1 => ?_)
            refine lv_iload hx hb dX1_roundRow_129 (lv_at hl 3 rfl) ?_
            refine lv_aload_n hx hb dX1_roundRow_131 rfl (lv_at hl 0 rfl) ?_
            refine w_getM (own := RX1) (v := .ref (q 1)) S in_w hK hP rfl 2 (by decide) fl_13 rfl rfl dX1_roundRow_132 ?_
            refine lv_iload_n hx hb dX1_roundRow_135 rfl (lv_at hl 1 rfl) ?_
            refine w_iald hx hb hK hP 1 0 rfl rfl (j := i) (v := inf i) (hI i (by omega)) (by omega) (by decide) dX1_roundRow_136 ?_
            refine lv_icmp_ge (tgt := 185) hx hb dX1_roundRow_137 (by decide) (fun h137_2 => ?_) (fun h137_2 => absurd (msg_0 hj) h137_2)
            subst hQ
            exact W.vret hx hb hr (fun t ht hWm => ⟨⟨(fr, ff), rfl, (by unfold rrwM; rw [if_pos hsd]; show ag2 n _ (rsM (opn w) i n (msg (inf i) (rrS n inf e i n)) (_, _)).1 ∧ ag1 n _ (rsM (opn w) i n (msg (inf i) (rrS n inf e i n)) (_, _)).2; rw [← hRES, ← hres]; exact ⟨hg_fr, hg_ff⟩), (show va_P D cls2 _ t.heap from by rw [ht]; exact hP)⟩, hS.F ht⟩) hS.2.2 dX1_roundRow_185
          | succ j ih =>
            intro sm rt fs fr ff H locs hj hres hg_fr hg_ff hP hS ls hl
            have hms := msg_s hj
            refine lv_dload_n hx hb dX1_roundRow_123 rfl (lv_at hl 2 rfl) ?_
            refine lv_dconst0 hx hb dX1_roundRow_124 ?_
            refine w_dgt (tgt := 185) hx hb dX1_roundRow_125 dX1_roundRow_126 (by decide) (fun h125_1 => absurd (hsd) (by rw [h125_1]; decide)) (fun h125_1 => ?_)
            refine lv_iload hx hb dX1_roundRow_129 (lv_at hl 3 rfl) ?_
            refine lv_aload_n hx hb dX1_roundRow_131 rfl (lv_at hl 0 rfl) ?_
            refine w_getM (own := RX1) (v := .ref (q 1)) S in_w hK hP rfl 2 (by decide) fl_13 rfl rfl dX1_roundRow_132 ?_
            refine lv_iload_n hx hb dX1_roundRow_135 rfl (lv_at hl 1 rfl) ?_
            refine w_iald hx hb hK hP 1 0 rfl rfl (j := i) (v := inf i) (hI i (by omega)) (by omega) (by decide) dX1_roundRow_136 ?_
            refine lv_icmp_ge (tgt := 185) hx hb dX1_roundRow_137 (by decide) (fun h137_2 => absurd h137_2 hms.1) (fun h137_2 => ?_)
            refine lv_iload hx hb dX1_roundRow_140 (lv_at hl 4 rfl) ?_
            refine lv_iconst (v := -1) hx hb dX1_roundRow_142 (by decide) ?_
            refine lv_icmp_eq (tgt := 185) hx hb dX1_roundRow_143 (by decide) (fun h143_3 => ?_) (fun h143_3 => ?_)
            · subst hQ
              exact W.vret hx hb hr (fun t ht hWm => ⟨⟨(fr, ff), rfl, (by unfold rrwM; rw [if_pos hsd]; show ag2 n _ (rsM (opn w) i n (msg (inf i) (rrS n inf e i n)) (_, _)).1 ∧ ag1 n _ (rsM (opn w) i n (msg (inf i) (rrS n inf e i n)) (_, _)).2; rw [← hRES, ← hres, rsM_stop h143_3]; exact ⟨hg_fr, hg_ff⟩), (show va_P D cls2 _ t.heap from by rw [ht]; exact hP)⟩, hS.F ht⟩) hS.2.2 dX1_roundRow_185
            · obtain ⟨jj, hjj, ejj⟩ := nxt_at h143_3
              rw [ejj] at hl
              have hl : lv_has ls 8 [(0, .ref (q 0)), (1, .int (nI i)), (2, .double (rowS e n i)), (4, .int sm), (5, .int (nI jj))] := hl
              refine lv_aload_n hx hb dX1_roundRow_146 rfl (lv_at hl 0 rfl) ?_
              refine w_getM (own := RX1) (v := .ref (q 5)) S in_w hK hP rfl 7 (by decide) fl_27 rfl rfl dX1_roundRow_147 ?_
              refine lv_bipush (v := nI 6) hx hb dX1_roundRow_150 (by decide) ?_
              refine lv_iload_n hx hb dX1_roundRow_152 rfl (lv_at hl 1 rfl) ?_
              refine w_imulL (N := 6) (y := 0) hx hb rfl dX1_roundRow_153 ?_
              refine lv_iload hx hb dX1_roundRow_154 (lv_at hl 4 rfl) ?_
              refine w_iadd hx hb dX1_roundRow_156 ?_
              refine lv_dup2_11 hx hb dX1_roundRow_157 rfl rfl ?_
              refine w_iald hx hb hK hP 5 0 rfl rfl (j := 6 * i + jj) (v := rt i jj) (hg_fr i jj (by omega) (by omega)) (by omega) (by decide) dX1_roundRow_158 ?_
              refine lv_iconst (v := nI 1) hx hb dX1_roundRow_159 (by decide) ?_
              refine lv_iadd hx hb dX1_roundRow_160 ?_
              refine w_iast hx hb hK hP (wD_of hq rfl) hS 5 0 rfl rfl (j := 6 * i + jj) (x := (rt i jj) + (nI 1)) (by omega) (by decide) dX1_roundRow_161 (fun H locs hP _ hS => ?_)
              have hP : va_P D cls2 (mW q cI cD th (nI n) rC hh fi fo fw fe (upd fr (6 * i + jj) ((rt i jj) + (nI 1))) ff fp fl fc) H := hP
              have g_4 : ag2 n (upd fr (6 * i + jj) ((rt i jj) + (nI 1))) (upd2 rt i jj ((rt i jj) + (nI 1))) := (ag2_upd hg_fr hn.2 (i := i) (j := jj) (by omega) ((rt i jj) + (nI 1)))
              generalize (upd fr (6 * i + jj) ((rt i jj) + (nI 1))) = a_3 at hP g_4
              refine lv_iinc (v := sm + Int32.ofInt 1) (lv' := [(4, .int (sm + Int32.ofInt 1)), (0, .ref (q 0)), (1, .int (nI i)), (2, .double (rowS e n i)), (5, .int (nI jj))]) hx hb dX1_roundRow_162 hl (k := 3) rfl rfl (by decide) rfl (fun ls hl => ?_)
              refine lv_aload_n hx hb dX1_roundRow_165 rfl (lv_at hl 1 rfl) ?_
              refine w_getM (own := RX1) (v := .ref (q 6)) S in_w hK hP rfl 8 (by decide) fl_30 rfl rfl dX1_roundRow_166 ?_
              refine lv_iload hx hb dX1_roundRow_169 (lv_at hl 4 rfl) ?_
              refine lv_ldc2d (v := 13830554455654793216) hx hb hown (hts (.constantDouble RX1 122 13830554455654793216) (by decide +kernel)) dX1_roundRow_171 ?_
              refine w_dast hx hb hK hP (wD_of hq rfl) hS 6 1 rfl rfl (j := jj) (x := 13830554455654793216) (by omega) (by decide) dX1_roundRow_174 (fun H locs hP _ hS => ?_)
              have hP : va_P D cls2 (mW q cI cD th (nI n) rC hh fi fo fw fe a_3 (vf_upd ff jj 13830554455654793216) fp fl fc) H := hP
              have g_6 : ag1 n (vf_upd ff jj 13830554455654793216) (vf_upd fs jj 13830554455654793216) := (ag1_updD hg_ff jj 13830554455654793216)
              generalize (vf_upd ff jj 13830554455654793216) = a_5 at hP g_6
              refine lv_aload_n hx hb dX1_roundRow_175 rfl (lv_at hl 1 rfl) ?_
              refine lv_iload_n hx hb dX1_roundRow_176 rfl (lv_at hl 2 rfl) ?_
              refine vp_callSi (W.runV (As := [.int (nI i)]) (rest := []) S (c_X1_nextOf hn hW g_6 (i := i) (by omega)) (cwV 1 hts gX1_roundRow_X1_nextOf rfl rfl rfl hdX1_nextOf ⟨Nat.le_of_ble_eq_true rfl, Nat.le_of_ble_eq_true rfl⟩) (preV hK hP rfl rfl) rfl rfl hl.1 rfl (lv_room (Nat.le_of_ble_eq_true rfl)) dX1_roundRow_177 ⟨Nat.zero_le _, Nat.zero_le _⟩) (fun r_7 er_7 => ?_)
              subst er_7
              refine lv_istore (lv' := [(5, .int (nxt (opn w) (vf_upd fs jj 13830554455654793216) i n)), (4, .int (sm + Int32.ofInt 1)), (0, .ref (q 0)), (1, .int (nI i)), (2, .double (rowS e n i))]) hx hb dX1_roundRow_180 hl (by decide) rfl (fun ls hl => ?_)
              refine lv_goto (tgt := 123) hx hb dX1_roundRow_182 (by decide) ?_
              exact ih _ _ _ _ _ _ _ hms.2 (by rw [← hres, rsM_step h143_3 ejj (by omega)]) g_4 g_6 hP hS ls (lv_sub hl [2, 3, 4, 1, 0] rfl)
        exact lp123 _ _ _ _ _ _ _ _ rfl hRES.symm hg_fr hg_ff hP hS ls (lv_sub hl [1, 2, 3, 4, 0] rfl)
      · refine lv_dload_n hx hb dX1_roundRow_123 rfl (lv_at hl 3 rfl) ?_
        refine lv_dconst0 hx hb dX1_roundRow_124 ?_
        refine w_dgt (tgt := 185) hx hb dX1_roundRow_125 dX1_roundRow_126 (by decide) (fun h125_1 => ?_) (fun h125_1 => absurd (hsd) (by rw [h125_1]; decide))
        subst hQ
        exact W.vret hx hb hr (fun t ht hWm => ⟨⟨(fr, ff), rfl, (by unfold rrwM; rw [if_neg (by rw [hsd]; decide)]; exact ⟨hg_fr, hg_ff⟩), (show va_P D cls2 _ t.heap from by rw [ht]; exact hP)⟩, hS.F ht⟩) hS.2.2 dX1_roundRow_185
    | succ j ih =>
      intro k hk_k fr ff H locs hg_fr hg_ff hP hS ls hl
      have hlt_k : k < n := by omega
      refine lv_iload hx hb dX1_roundRow_12 (lv_at hl 4 rfl) ?_
      refine lv_aload_n hx hb dX1_roundRow_14 rfl (lv_at hl 0 rfl) ?_
      refine w_getM (own := RX1) (v := .int (nI n)) S in_w hK hP rfl 1 (by decide) fl_7 rfl rfl dX1_roundRow_15 ?_
      refine lv_icmp_ge (tgt := 116) hx hb dX1_roundRow_18 (by decide) (fun h18_0 => absurd h18_0 (nI_ge hlt_k (by omega))) (fun h18_0 => ?_)
      refine lv_dload_n hx hb dX1_roundRow_21 rfl (lv_at hl 2 rfl) ?_
      refine lv_dconst0 hx hb dX1_roundRow_22 ?_
      refine w_dgt (tgt := 52) hx hb dX1_roundRow_23 dX1_roundRow_24 (by decide) (fun h23_1 => ?_) (fun h23_1 => ?_)
      · refine lv_dconst0 hx hb dX1_roundRow_52 ?_
        refine lv_dstore (lv' := [(6, .double FP.dconst0), (0, .ref (q 0)), (1, .int (nI i)), (2, .double (rowS e n i)), (4, .int (rrS n inf e i k)), (5, .int (nI k))]) hx hb dX1_roundRow_53 hl (by decide) rfl (fun ls hl => ?_)
        refine lv_aload_n hx hb dX1_roundRow_55 rfl (lv_at hl 1 rfl) ?_
        refine w_getM (own := RX1) (v := .ref (q 5)) S in_w hK hP rfl 7 (by decide) fl_27 rfl rfl dX1_roundRow_56 ?_
        refine lv_bipush (v := nI 6) hx hb dX1_roundRow_59 (by decide) ?_
        refine lv_iload_n hx hb dX1_roundRow_61 rfl (lv_at hl 2 rfl) ?_
        refine w_imulL (N := 6) (y := 0) hx hb rfl dX1_roundRow_62 ?_
        refine lv_iload hx hb dX1_roundRow_63 (lv_at hl 5 rfl) ?_
        refine w_iadd hx hb dX1_roundRow_65 ?_
        refine lv_dload hx hb dX1_roundRow_66 (lv_at hl 0 rfl) ?_
        refine lv_d2i hx hb dX1_roundRow_68 ?_
        refine w_iast hx hb hK hP (wD_of hq rfl) hS 5 0 rfl rfl (j := 6 * i + k) (x := FP.d2i FP.dconst0) (by omega) (by decide) dX1_roundRow_69 (fun H locs hP _ hS => ?_)
        have hP : va_P D cls2 (mW q cI cD th (nI n) rC hh fi fo fw fe (upd fr (6 * i + k) (FP.d2i FP.dconst0)) ff fp fl fc) H := hP
        have g_9 : ag2 n (upd fr (6 * i + k) (FP.d2i FP.dconst0)) (upd2 (rrT n inf e i k rt) i k (FP.d2i FP.dconst0)) := (ag2_upd hg_fr hn.2 (i := i) (j := k) (by omega) (FP.d2i FP.dconst0))
        generalize (upd fr (6 * i + k) (FP.d2i FP.dconst0)) = a_8 at hP g_9
        refine lv_aload_n hx hb dX1_roundRow_70 rfl (lv_at hl 1 rfl) ?_
        refine w_getM (own := RX1) (v := .ref (q 6)) S in_w hK hP rfl 8 (by decide) fl_30 rfl rfl dX1_roundRow_71 ?_
        refine lv_iload hx hb dX1_roundRow_74 (lv_at hl 5 rfl) ?_
        refine lv_dload hx hb dX1_roundRow_76 (lv_at hl 0 rfl) ?_
        refine lv_aload_n hx hb dX1_roundRow_78 rfl (lv_at hl 1 rfl) ?_
        refine w_getM (own := RX1) (v := .ref (q 5)) S in_w hK hP rfl 7 (by decide) fl_27 rfl rfl dX1_roundRow_79 ?_
        refine lv_bipush (v := nI 6) hx hb dX1_roundRow_82 (by decide) ?_
        refine lv_iload_n hx hb dX1_roundRow_84 rfl (lv_at hl 2 rfl) ?_
        refine w_imulL (N := 6) (y := 0) hx hb rfl dX1_roundRow_85 ?_
        refine lv_iload hx hb dX1_roundRow_86 (lv_at hl 5 rfl) ?_
        refine w_iadd hx hb dX1_roundRow_88 ?_
        refine w_iald hx hb hK hP 5 0 rfl rfl (j := 6 * i + k) (v := FP.d2i FP.dconst0) ((g_9 i k (by omega) (by omega)).trans (upd2_self _ _ _ _)) (by omega) (by decide) dX1_roundRow_89 ?_
        refine lv_i2d hx hb dX1_roundRow_90 ?_
        refine lv_dsub hx hb dX1_roundRow_91 (by have h9 := ho.2.2 k (by omega); unfold fv wv xv at h9; simpa only [h23_1, reduceIte, Bool.false_eq_true] using h9) ?_
        refine w_dast hx hb hK hP (wD_of hq rfl) hS 6 1 rfl rfl (j := k) (x := FP.dsub FP.dconst0 (FP.i2d (FP.d2i FP.dconst0))) (by omega) (by decide) dX1_roundRow_92 (fun H locs hP _ hS => ?_)
        have hP : va_P D cls2 (mW q cI cD th (nI n) rC hh fi fo fw fe a_8 (vf_upd ff k (FP.dsub FP.dconst0 (FP.i2d (FP.d2i FP.dconst0)))) fp fl fc) H := hP
        have g_11 : ag1 n (vf_upd ff k (FP.dsub FP.dconst0 (FP.i2d (FP.d2i FP.dconst0)))) (vf_upd (rrF n inf e i k fs) k (FP.dsub FP.dconst0 (FP.i2d (FP.d2i FP.dconst0)))) := (ag1_updD hg_ff k (FP.dsub FP.dconst0 (FP.i2d (FP.d2i FP.dconst0))))
        generalize (vf_upd ff k (FP.dsub FP.dconst0 (FP.i2d (FP.d2i FP.dconst0)))) = a_10 at hP g_11
        refine lv_iload hx hb dX1_roundRow_93 (lv_at hl 4 rfl) ?_
        refine lv_aload_n hx hb dX1_roundRow_95 rfl (lv_at hl 1 rfl) ?_
        refine w_getM (own := RX1) (v := .ref (q 5)) S in_w hK hP rfl 7 (by decide) fl_27 rfl rfl dX1_roundRow_96 ?_
        refine lv_bipush (v := nI 6) hx hb dX1_roundRow_99 (by decide) ?_
        refine lv_iload_n hx hb dX1_roundRow_101 rfl (lv_at hl 2 rfl) ?_
        refine w_imulL (N := 6) (y := 0) hx hb rfl dX1_roundRow_102 ?_
        refine lv_iload hx hb dX1_roundRow_103 (lv_at hl 5 rfl) ?_
        refine w_iadd hx hb dX1_roundRow_105 ?_
        refine w_iald hx hb hK hP 5 0 rfl rfl (j := 6 * i + k) (v := FP.d2i FP.dconst0) ((g_9 i k (by omega) (by omega)).trans (upd2_self _ _ _ _)) (by omega) (by decide) dX1_roundRow_106 ?_
        refine lv_iadd hx hb dX1_roundRow_107 ?_
        refine lv_istore (lv' := [(4, .int ((rrS n inf e i k) + (FP.d2i FP.dconst0))), (6, .double FP.dconst0), (0, .ref (q 0)), (1, .int (nI i)), (2, .double (rowS e n i)), (5, .int (nI k))]) hx hb dX1_roundRow_108 hl (by decide) rfl (fun ls hl => ?_)
        refine lv_iinc (v := nI (k + 1)) (lv' := [(5, .int (nI (k + 1))), (4, .int ((rrS n inf e i k) + (FP.d2i FP.dconst0))), (6, .double FP.dconst0), (0, .ref (q 0)), (1, .int (nI i)), (2, .double (rowS e n i))]) hx hb dX1_roundRow_110 hl (k := 5) rfl (by rw [show Int32.ofInt 1 = nI 1 from by decide, nI_add]) (by decide) rfl (fun ls hl => ?_)
        refine lv_goto (tgt := 12) hx hb dX1_roundRow_113 (by decide) ?_
        have eq_12 : rrS n inf e i (k + 1) = (rrS n inf e i k) + (FP.d2i FP.dconst0) := by (show rrS n inf e i k + wv n inf e i k = _; unfold wv xv; simp only [h23_1, reduceIte, Bool.false_eq_true])
        have eq_13 : rrT n inf e i (k + 1) rt = upd2 (rrT n inf e i k rt) i k (FP.d2i FP.dconst0) := by (show upd2 (rrT n inf e i k rt) i k (wv n inf e i k) = _; unfold wv xv; simp only [h23_1, reduceIte, Bool.false_eq_true])
        have eq_14 : rrF n inf e i (k + 1) fs = vf_upd (rrF n inf e i k fs) k (FP.dsub FP.dconst0 (FP.i2d (FP.d2i FP.dconst0))) := by (show vf_upd (rrF n inf e i k fs) k (fv n inf e i k) = _; unfold fv wv xv; simp only [h23_1, reduceIte, Bool.false_eq_true])
        have hl : lv_has ls 8 [(5, .int (nI (k + 1))), (4, .int (rrS n inf e i (k + 1))), (6, .double FP.dconst0), (0, .ref (q 0)), (1, .int (nI i)), (2, .double (rowS e n i))] := by first | exact hl | (rw [eq_12]; exact hl)
        exact ih (k + 1) (by omega) _ _ _ _ (by rw [eq_13]; exact g_9) (by rw [eq_14]; exact g_11) hP hS ls (lv_sub hl [3, 4, 5, 1, 0] rfl)
      · refine lv_aload_n hx hb dX1_roundRow_27 rfl (lv_at hl 0 rfl) ?_
        refine w_getM (own := RX1) (v := .ref (q 4)) S in_w hK hP rfl 5 (by decide) fl_23 rfl rfl dX1_roundRow_28 ?_
        refine lv_bipush (v := nI 6) hx hb dX1_roundRow_31 (by decide) ?_
        refine lv_iload_n hx hb dX1_roundRow_33 rfl (lv_at hl 1 rfl) ?_
        refine w_imulL (N := 6) (y := 0) hx hb rfl dX1_roundRow_34 ?_
        refine lv_iload hx hb dX1_roundRow_35 (lv_at hl 4 rfl) ?_
        refine w_iadd hx hb dX1_roundRow_37 ?_
        refine w_dald hx hb hK hP 4 1 rfl rfl (j := 6 * i + k) (v := e i k) (hE i k (by omega) (by omega)) (by omega) (by decide) dX1_roundRow_38 ?_
        refine lv_aload_n hx hb dX1_roundRow_39 rfl (lv_at hl 0 rfl) ?_
        refine w_getM (own := RX1) (v := .ref (q 1)) S in_w hK hP rfl 2 (by decide) fl_13 rfl rfl dX1_roundRow_40 ?_
        refine lv_iload_n hx hb dX1_roundRow_43 rfl (lv_at hl 1 rfl) ?_
        refine w_iald hx hb hK hP 1 0 rfl rfl (j := i) (v := inf i) (hI i (by omega)) (by omega) (by decide) dX1_roundRow_44 ?_
        refine lv_i2d hx hb dX1_roundRow_45 ?_
        refine lv_dmul hx hb dX1_roundRow_46 (ho.2.1 h23_1 k (by omega)).1 ?_
        refine lv_dload_n hx hb dX1_roundRow_47 rfl (lv_at hl 2 rfl) ?_
        refine lv_ddiv hx hb dX1_roundRow_48 (ho.2.1 h23_1 k (by omega)).2 ?_
        refine lv_goto (tgt := 53) hx hb dX1_roundRow_49 (by decide) ?_
        refine lv_dstore (lv' := [(6, .double (FP.ddiv (FP.dmul (e i k) (FP.i2d (inf i))) (rowS e n i))), (0, .ref (q 0)), (1, .int (nI i)), (2, .double (rowS e n i)), (4, .int (rrS n inf e i k)), (5, .int (nI k))]) hx hb dX1_roundRow_53 hl (by decide) rfl (fun ls hl => ?_)
        refine lv_aload_n hx hb dX1_roundRow_55 rfl (lv_at hl 1 rfl) ?_
        refine w_getM (own := RX1) (v := .ref (q 5)) S in_w hK hP rfl 7 (by decide) fl_27 rfl rfl dX1_roundRow_56 ?_
        refine lv_bipush (v := nI 6) hx hb dX1_roundRow_59 (by decide) ?_
        refine lv_iload_n hx hb dX1_roundRow_61 rfl (lv_at hl 2 rfl) ?_
        refine w_imulL (N := 6) (y := 0) hx hb rfl dX1_roundRow_62 ?_
        refine lv_iload hx hb dX1_roundRow_63 (lv_at hl 5 rfl) ?_
        refine w_iadd hx hb dX1_roundRow_65 ?_
        refine lv_dload hx hb dX1_roundRow_66 (lv_at hl 0 rfl) ?_
        refine lv_d2i hx hb dX1_roundRow_68 ?_
        refine w_iast hx hb hK hP (wD_of hq rfl) hS 5 0 rfl rfl (j := 6 * i + k) (x := FP.d2i (FP.ddiv (FP.dmul (e i k) (FP.i2d (inf i))) (rowS e n i))) (by omega) (by decide) dX1_roundRow_69 (fun H locs hP _ hS => ?_)
        have hP : va_P D cls2 (mW q cI cD th (nI n) rC hh fi fo fw fe (upd fr (6 * i + k) (FP.d2i (FP.ddiv (FP.dmul (e i k) (FP.i2d (inf i))) (rowS e n i)))) ff fp fl fc) H := hP
        have g_16 : ag2 n (upd fr (6 * i + k) (FP.d2i (FP.ddiv (FP.dmul (e i k) (FP.i2d (inf i))) (rowS e n i)))) (upd2 (rrT n inf e i k rt) i k (FP.d2i (FP.ddiv (FP.dmul (e i k) (FP.i2d (inf i))) (rowS e n i)))) := (ag2_upd hg_fr hn.2 (i := i) (j := k) (by omega) (FP.d2i (FP.ddiv (FP.dmul (e i k) (FP.i2d (inf i))) (rowS e n i))))
        generalize (upd fr (6 * i + k) (FP.d2i (FP.ddiv (FP.dmul (e i k) (FP.i2d (inf i))) (rowS e n i)))) = a_15 at hP g_16
        refine lv_aload_n hx hb dX1_roundRow_70 rfl (lv_at hl 1 rfl) ?_
        refine w_getM (own := RX1) (v := .ref (q 6)) S in_w hK hP rfl 8 (by decide) fl_30 rfl rfl dX1_roundRow_71 ?_
        refine lv_iload hx hb dX1_roundRow_74 (lv_at hl 5 rfl) ?_
        refine lv_dload hx hb dX1_roundRow_76 (lv_at hl 0 rfl) ?_
        refine lv_aload_n hx hb dX1_roundRow_78 rfl (lv_at hl 1 rfl) ?_
        refine w_getM (own := RX1) (v := .ref (q 5)) S in_w hK hP rfl 7 (by decide) fl_27 rfl rfl dX1_roundRow_79 ?_
        refine lv_bipush (v := nI 6) hx hb dX1_roundRow_82 (by decide) ?_
        refine lv_iload_n hx hb dX1_roundRow_84 rfl (lv_at hl 2 rfl) ?_
        refine w_imulL (N := 6) (y := 0) hx hb rfl dX1_roundRow_85 ?_
        refine lv_iload hx hb dX1_roundRow_86 (lv_at hl 5 rfl) ?_
        refine w_iadd hx hb dX1_roundRow_88 ?_
        refine w_iald hx hb hK hP 5 0 rfl rfl (j := 6 * i + k) (v := FP.d2i (FP.ddiv (FP.dmul (e i k) (FP.i2d (inf i))) (rowS e n i))) ((g_16 i k (by omega) (by omega)).trans (upd2_self _ _ _ _)) (by omega) (by decide) dX1_roundRow_89 ?_
        refine lv_i2d hx hb dX1_roundRow_90 ?_
        refine lv_dsub hx hb dX1_roundRow_91 (by have h9 := ho.2.2 k (by omega); unfold fv wv xv at h9; simpa only [h23_1, reduceIte, Bool.false_eq_true] using h9) ?_
        refine w_dast hx hb hK hP (wD_of hq rfl) hS 6 1 rfl rfl (j := k) (x := FP.dsub (FP.ddiv (FP.dmul (e i k) (FP.i2d (inf i))) (rowS e n i)) (FP.i2d (FP.d2i (FP.ddiv (FP.dmul (e i k) (FP.i2d (inf i))) (rowS e n i))))) (by omega) (by decide) dX1_roundRow_92 (fun H locs hP _ hS => ?_)
        have hP : va_P D cls2 (mW q cI cD th (nI n) rC hh fi fo fw fe a_15 (vf_upd ff k (FP.dsub (FP.ddiv (FP.dmul (e i k) (FP.i2d (inf i))) (rowS e n i)) (FP.i2d (FP.d2i (FP.ddiv (FP.dmul (e i k) (FP.i2d (inf i))) (rowS e n i)))))) fp fl fc) H := hP
        have g_18 : ag1 n (vf_upd ff k (FP.dsub (FP.ddiv (FP.dmul (e i k) (FP.i2d (inf i))) (rowS e n i)) (FP.i2d (FP.d2i (FP.ddiv (FP.dmul (e i k) (FP.i2d (inf i))) (rowS e n i)))))) (vf_upd (rrF n inf e i k fs) k (FP.dsub (FP.ddiv (FP.dmul (e i k) (FP.i2d (inf i))) (rowS e n i)) (FP.i2d (FP.d2i (FP.ddiv (FP.dmul (e i k) (FP.i2d (inf i))) (rowS e n i)))))) := (ag1_updD hg_ff k (FP.dsub (FP.ddiv (FP.dmul (e i k) (FP.i2d (inf i))) (rowS e n i)) (FP.i2d (FP.d2i (FP.ddiv (FP.dmul (e i k) (FP.i2d (inf i))) (rowS e n i))))))
        generalize (vf_upd ff k (FP.dsub (FP.ddiv (FP.dmul (e i k) (FP.i2d (inf i))) (rowS e n i)) (FP.i2d (FP.d2i (FP.ddiv (FP.dmul (e i k) (FP.i2d (inf i))) (rowS e n i)))))) = a_17 at hP g_18
        refine lv_iload hx hb dX1_roundRow_93 (lv_at hl 4 rfl) ?_
        refine lv_aload_n hx hb dX1_roundRow_95 rfl (lv_at hl 1 rfl) ?_
        refine w_getM (own := RX1) (v := .ref (q 5)) S in_w hK hP rfl 7 (by decide) fl_27 rfl rfl dX1_roundRow_96 ?_
        refine lv_bipush (v := nI 6) hx hb dX1_roundRow_99 (by decide) ?_
        refine lv_iload_n hx hb dX1_roundRow_101 rfl (lv_at hl 2 rfl) ?_
        refine w_imulL (N := 6) (y := 0) hx hb rfl dX1_roundRow_102 ?_
        refine lv_iload hx hb dX1_roundRow_103 (lv_at hl 5 rfl) ?_
        refine w_iadd hx hb dX1_roundRow_105 ?_
        refine w_iald hx hb hK hP 5 0 rfl rfl (j := 6 * i + k) (v := FP.d2i (FP.ddiv (FP.dmul (e i k) (FP.i2d (inf i))) (rowS e n i))) ((g_16 i k (by omega) (by omega)).trans (upd2_self _ _ _ _)) (by omega) (by decide) dX1_roundRow_106 ?_
        refine lv_iadd hx hb dX1_roundRow_107 ?_
        refine lv_istore (lv' := [(4, .int ((rrS n inf e i k) + (FP.d2i (FP.ddiv (FP.dmul (e i k) (FP.i2d (inf i))) (rowS e n i))))), (6, .double (FP.ddiv (FP.dmul (e i k) (FP.i2d (inf i))) (rowS e n i))), (0, .ref (q 0)), (1, .int (nI i)), (2, .double (rowS e n i)), (5, .int (nI k))]) hx hb dX1_roundRow_108 hl (by decide) rfl (fun ls hl => ?_)
        refine lv_iinc (v := nI (k + 1)) (lv' := [(5, .int (nI (k + 1))), (4, .int ((rrS n inf e i k) + (FP.d2i (FP.ddiv (FP.dmul (e i k) (FP.i2d (inf i))) (rowS e n i))))), (6, .double (FP.ddiv (FP.dmul (e i k) (FP.i2d (inf i))) (rowS e n i))), (0, .ref (q 0)), (1, .int (nI i)), (2, .double (rowS e n i))]) hx hb dX1_roundRow_110 hl (k := 5) rfl (by rw [show Int32.ofInt 1 = nI 1 from by decide, nI_add]) (by decide) rfl (fun ls hl => ?_)
        refine lv_goto (tgt := 12) hx hb dX1_roundRow_113 (by decide) ?_
        have eq_19 : rrS n inf e i (k + 1) = (rrS n inf e i k) + (FP.d2i (FP.ddiv (FP.dmul (e i k) (FP.i2d (inf i))) (rowS e n i))) := by (show rrS n inf e i k + wv n inf e i k = _; unfold wv xv; simp only [h23_1, reduceIte, Bool.false_eq_true])
        have eq_20 : rrT n inf e i (k + 1) rt = upd2 (rrT n inf e i k rt) i k (FP.d2i (FP.ddiv (FP.dmul (e i k) (FP.i2d (inf i))) (rowS e n i))) := by (show upd2 (rrT n inf e i k rt) i k (wv n inf e i k) = _; unfold wv xv; simp only [h23_1, reduceIte, Bool.false_eq_true])
        have eq_21 : rrF n inf e i (k + 1) fs = vf_upd (rrF n inf e i k fs) k (FP.dsub (FP.ddiv (FP.dmul (e i k) (FP.i2d (inf i))) (rowS e n i)) (FP.i2d (FP.d2i (FP.ddiv (FP.dmul (e i k) (FP.i2d (inf i))) (rowS e n i))))) := by (show vf_upd (rrF n inf e i k fs) k (fv n inf e i k) = _; unfold fv wv xv; simp only [h23_1, reduceIte, Bool.false_eq_true])
        have hl : lv_has ls 8 [(5, .int (nI (k + 1))), (4, .int (rrS n inf e i (k + 1))), (6, .double (FP.ddiv (FP.dmul (e i k) (FP.i2d (inf i))) (rowS e n i))), (0, .ref (q 0)), (1, .int (nI i)), (2, .double (rowS e n i))] := by first | exact hl | (rw [eq_19]; exact hl)
        exact ih (k + 1) (by omega) _ _ _ _ (by rw [eq_20]; exact g_16) (by rw [eq_21]; exact g_18) hP hS ls (lv_sub hl [3, 4, 5, 1, 0] rfl)
  exact lp12 (n - 0) 0 (by omega) _ _ _ _ hR hF hP hS ls (lv_sub hl [3, 4, 2, 1, 0] rfl)
abbrev rX1_layWhole : Room := { frames := 2, cells := 0, slots := 0, locals := 51 }
theorem hdX1_layWhole : yX1_layWhole.cls = RX1 ∧ yX1_layWhole.cls ≠ "java/lang/invoke/MethodHandle" ∧ yX1_layWhole.cls ≠ "java/lang/invoke/VarHandle" ∧ (parseMethodDescriptor yX1_layWhole.desc).map (fun d => d.parameters.length) = some 0 := by decide +kernel
set_option maxHeartbeats 4000000 in
set_option maxRecDepth 100000 in
theorem c_X1_layWhole {l : Launch} {D : va_G} {q : Nat → Nat} {cI cD : ClassId} {th rC : Int32} {hh : Int64} {fi fo fw : Nat → Int32} {fe : Nat → UInt64} {fr : Nat → Int32} {ff : Nat → UInt64} {fp fl fc : Nat → Int32} {n : Nat} (hn : 3 ≤ n ∧ n ≤ 6) {inf : Nat → Int32} (hI : ag1 n fi inf) {w : Nat → Nat → Int32} (hW : ag2 n fw w) {e : Nat → Nat → UInt64} (hE : ag2 n fe e) {rt : Nat → Nat → Int32} (hR : ag2 n fr rt) {fs : Nat → UInt64} (hF : ag1 n ff fs) (ho : ∀ i : Nat, i < n → okX n inf e i) (hq : qD q) : Met l yX1_layWhole wsX1_layWhole rX1_layWhole (va_Pc [.ref (q 0)] (wPre D (tys2 cI cD) (mW q cI cD th (nI n) rC hh fi fo fw fe fr ff fp fl fc))) (va_Qv (fun (u : (Nat → Int32) × (Nat → UInt64)) => ag2 n u.1 (ralM (opn w) n inf e n (rt, fs)).1 ∧ ag1 n u.2 (ralM (opn w) n inf e n (rt, fs)).2) (fun u t => va_P D cls2 (mW q cI cD th (nI n) rC hh fi fo fw fe u.1 u.2 fp fl fc) t.heap) (qA q)) 0 0 (qA q) := by
  refine met_intro (cc := cX1_layWhole) (maxL := 2) (ret := none) (own := RX1) (by decide) rfl rfl (Nat.le_of_ble_eq_true rfl) ?_
  intro pp ee ss mm args below meth cd Q ls hQ S hr hlocks hv hB hl
  obtain ⟨hx, hb, hml, hown, hts⟩ := id S
  obtain ⟨hP, hK⟩ := hB
  have in_w : ∀ w ∈ wsX10, w ∈ wsX1_layWhole := by decide +kernel
  have fl_7 : Cond.fieldLink RX1 7 RX1 (TX1 1).2.1 (TX1 1).2.2.1 ∈ wsX1_layWhole := by decide +kernel
  have hS : va_S (qA q) ss.heap ss.heap [] := va_S.rf
  generalize hHg : ss.heap = H at hP
  have hS : va_S (qA q) ss.heap H [] := by rw [← hHg]; exact hS
  suffices hgo : ∀ locs : List Loc, va_S (qA q) ss.heap H locs → W pp l ee rX1_layWhole ss mm args below meth cd H locs 0 0 Q (F0 mm 0 ls []) by
    first | exact hgo [] hS | (rw [hHg]; exact hgo [] hS)
  clear hS
  intro locs hS
  have hl : lv_has ls 2 [(0, .ref (q 0))] := hl
  refine lv_iconst (v := nI 0) hx hb dX1_layWhole_0 (by decide) ?_
  refine lv_istore_n (lv' := [(1, .int (nI 0)), (0, .ref (q 0))]) hx hb dX1_layWhole_1 rfl hl (by decide) rfl (fun ls hl => ?_)
  have lp2 : ∀ (j k : Nat), k + j = n → ∀ (fr : Nat → Int32), ∀ (ff : Nat → UInt64), ∀ (H : Heap) (locs : List Loc), ag2 n fr ((ralM (opn w) n inf e k (rt, fs)).1) → ag1 n ff ((ralM (opn w) n inf e k (rt, fs)).2) → va_P D cls2 (mW q cI cD th (nI n) rC hh fi fo fw fe fr ff fp fl fc) H → va_S (qA q) ss.heap H locs → ∀ ls : Array Slot, lv_has ls 2 [(0, .ref (q 0)), (1, .int (nI k))] → W pp l ee rX1_layWhole ss mm args below meth cd H locs 0 0 Q (F0 mm 2 ls []) := by
    intro j
    induction j with
    | zero =>
      intro k hk_k fr ff H locs hg_fr hg_ff hP hS ls hl
      have hke_k : n = k := by omega
      subst hke_k
      refine lv_iload_n hx hb dX1_layWhole_2 rfl (lv_at hl 1 rfl) ?_
      refine lv_aload_n hx hb dX1_layWhole_3 rfl (lv_at hl 0 rfl) ?_
      refine w_getM (own := RX1) (v := .int (nI n)) S in_w hK hP rfl 1 (by decide) fl_7 rfl rfl dX1_layWhole_4 ?_
      refine lv_icmp_ge (tgt := 21) hx hb dX1_layWhole_7 (by decide) (fun h7_0 => ?_) (fun h7_0 => absurd (Int32.le_refl _) h7_0)
      subst hQ
      exact W.vret hx hb hr (fun t ht hWm => ⟨⟨(fr, ff), rfl, ⟨hg_fr, hg_ff⟩, (show va_P D cls2 _ t.heap from by rw [ht]; exact hP)⟩, hS.F ht⟩) hS.2.2 dX1_layWhole_21
    | succ j ih =>
      intro k hk_k fr ff H locs hg_fr hg_ff hP hS ls hl
      have hlt_k : k < n := by omega
      refine lv_iload_n hx hb dX1_layWhole_2 rfl (lv_at hl 1 rfl) ?_
      refine lv_aload_n hx hb dX1_layWhole_3 rfl (lv_at hl 0 rfl) ?_
      refine w_getM (own := RX1) (v := .int (nI n)) S in_w hK hP rfl 1 (by decide) fl_7 rfl rfl dX1_layWhole_4 ?_
      refine lv_icmp_ge (tgt := 21) hx hb dX1_layWhole_7 (by decide) (fun h7_0 => absurd h7_0 (nI_ge hlt_k (by omega))) (fun h7_0 => ?_)
      refine lv_aload_n hx hb dX1_layWhole_10 rfl (lv_at hl 0 rfl) ?_
      refine lv_iload_n hx hb dX1_layWhole_11 rfl (lv_at hl 1 rfl) ?_
      refine va_callv (va_runV (As := [.int (nI k)]) (rest := []) S (c_X1_roundRow hn hI hW hE hg_fr hg_ff (i := k) (by omega) (ho k (by omega)) hq) (cwV 1 hts gX1_layWhole_X1_roundRow rfl rfl rfl hdX1_roundRow ⟨Nat.le_of_ble_eq_true rfl, Nat.le_of_ble_eq_true rfl⟩) (preV hK hP rfl rfl) rfl rfl hl.1 rfl (lv_room (Nat.le_of_ble_eq_true rfl)) dX1_layWhole_12 ⟨Nat.zero_le _, Nat.zero_le _⟩) hS (fun _ _ h => h) (fun _ h => h) (fun u_2 t H locs ht hvm hw_3 hB hz1 hk1 hS => ?_)
      replace hB : va_P D cls2 _ t.heap := hB
      rw [ht] at hB
      have hP : va_P D cls2 (mW q cI cD th (nI n) rC hh fi fo fw fe u_2.1 u_2.2 fp fl fc) H := hB
      refine lv_iinc (v := nI (k + 1)) (lv' := [(1, .int (nI (k + 1))), (0, .ref (q 0))]) hx hb dX1_layWhole_15 hl (k := 1) rfl (by rw [show Int32.ofInt 1 = nI 1 from by decide, nI_add]) (by decide) rfl (fun ls hl => ?_)
      refine lv_goto (tgt := 2) hx hb dX1_layWhole_18 (by decide) ?_
      have eq_4 : (ralM (opn w) n inf e (k + 1) (rt, fs)).1 = (rrwM (opn w) n inf e k (((ralM (opn w) n inf e k (rt, fs)).1), ((ralM (opn w) n inf e k (rt, fs)).2))).1 := by rfl
      have eq_5 : (ralM (opn w) n inf e (k + 1) (rt, fs)).2 = (rrwM (opn w) n inf e k (((ralM (opn w) n inf e k (rt, fs)).1), ((ralM (opn w) n inf e k (rt, fs)).2))).2 := by rfl
      exact ih (k + 1) (by omega) _ _ _ _ (by rw [eq_4]; exact hw_3.1) (by rw [eq_5]; exact hw_3.2) hP hS ls (lv_sub hl [1, 0] rfl)
  exact lp2 (n - 0) 0 (by omega) _ _ _ _ hR hF hP hS ls (lv_sub hl [1, 0] rfl)
abbrev rX1_rounded : Room := { frames := 3, cells := 0, slots := 0, locals := 65 }
theorem hdX1_rounded : yX1_rounded.cls = RX1 ∧ yX1_rounded.cls ≠ "java/lang/invoke/MethodHandle" ∧ yX1_rounded.cls ≠ "java/lang/invoke/VarHandle" ∧ (parseMethodDescriptor yX1_rounded.desc).map (fun d => d.parameters.length) = some 2 := by decide +kernel
set_option maxHeartbeats 4000000 in
set_option maxRecDepth 100000 in
theorem c_X1_rounded {l : Launch} {D : va_G} {q : Nat → Nat} {cI cD : ClassId} {th rC : Int32} {hh : Int64} {fi fo fw : Nat → Int32} {fe : Nat → UInt64} {fr : Nat → Int32} {ff : Nat → UInt64} {fp fl fc : Nat → Int32} {n : Nat} (hn : 3 ≤ n ∧ n ≤ 6) {inf : Nat → Int32} (hI : ag1 n fi inf) {w : Nat → Nat → Int32} (hW : ag2 n fw w) {e : Nat → Nat → UInt64} (hE : ag2 n fe e) {rt : Nat → Nat → Int32} (hR : ag2 n fr rt) {fs : Nat → UInt64} (hF : ag1 n ff fs) {i k : Nat} (hi : i < n) (hk : k < n) (ho : okX n inf e i) (hq : qD q) : Met l yX1_rounded wsX1_rounded rX1_rounded (va_Pc [.ref (q 0), .int (nI i), .int (nI k)] (wPre D (tys2 cI cD) (mW q cI cD th (nI n) rC hh fi fo fw fe fr ff fp fl fc))) (va_Qi (fun r (u : (Nat → Int32) × (Nat → UInt64)) => r = (rrwM (opn w) n inf e i (rt, fs)).1 i k) (fun u t => va_P D cls2 (mW q cI cD (nI 0) (nI n) rC hh fi fo fw fe u.1 u.2 fp fl fc) t.heap) (qA q)) 0 0 (qA q) := by
  refine met_intro (cc := cX1_rounded) (maxL := 3) (ret := (some .int)) (own := RX1) (by decide) rfl rfl (Nat.le_of_ble_eq_true rfl) ?_
  intro pp ee ss mm args below meth cd Q ls hQ S hr hlocks hv hB hl
  obtain ⟨hx, hb, hml, hown, hts⟩ := id S
  obtain ⟨hP, hK⟩ := hB
  have in_w : ∀ w ∈ wsX10, w ∈ wsX1_rounded := by decide +kernel
  have fl_27 : Cond.fieldLink RX1 27 RX1 (TX1 7).2.1 (TX1 7).2.2.1 ∈ wsX1_rounded := by decide +kernel
  have fl_45 : Cond.fieldLink RX1 45 RX1 (TX1 0).2.1 (TX1 0).2.2.1 ∈ wsX1_rounded := by decide +kernel
  have hS : va_S (qA q) ss.heap ss.heap [] := va_S.rf
  generalize hHg : ss.heap = H at hP
  have hS : va_S (qA q) ss.heap H [] := by rw [← hHg]; exact hS
  suffices hgo : ∀ locs : List Loc, va_S (qA q) ss.heap H locs → W pp l ee rX1_rounded ss mm args below meth cd H locs 0 0 Q (F0 mm 0 ls []) by
    first | exact hgo [] hS | (rw [hHg]; exact hgo [] hS)
  clear hS
  intro locs hS
  have hl : lv_has ls 3 [(0, .ref (q 0)), (1, .int (nI i)), (2, .int (nI k))] := hl
  refine lv_aload_n hx hb dX1_rounded_0 rfl (lv_at hl 0 rfl) ?_
  refine lv_aload_n hx hb dX1_rounded_1 rfl (lv_at hl 0 rfl) ?_
  refine lv_iload_n hx hb dX1_rounded_2 rfl (lv_at hl 1 rfl) ?_
  refine lv_iload_n hx hb dX1_rounded_3 rfl (lv_at hl 2 rfl) ?_
  refine vp_callSi (W.runV (As := [.int (nI i), .int (nI k)]) (rest := [.ref (q 0)]) S (c_X1_areArms (x := nI i) (y := nI k)) (cwV 2 hts gX1_rounded_X1_areArms rfl rfl rfl hdX1_areArms ⟨Nat.le_of_ble_eq_true rfl, Nat.le_of_ble_eq_true rfl⟩) (preV hK hP rfl rfl) rfl rfl hl.1 rfl (lv_room (Nat.le_of_ble_eq_true rfl)) dX1_rounded_4 ⟨Nat.zero_le _, Nat.zero_le _⟩) (fun r_1 er_1 => ?_)
  subst er_1
  refine w_ifBeq (tgt := 14) hx hb dX1_rounded_7 (by decide) (fun h7_0 => absurd ((armB2_t hn hi hk)) (by rw [h7_0]; decide)) (fun h7_0 => ?_)
  refine lv_iconst (v := nI 0) hx hb dX1_rounded_10 (by decide) ?_
  refine lv_goto (tgt := 15) hx hb dX1_rounded_11 (by decide) ?_
  refine w_putM (v := .int (nI 0)) (ty := .int) S in_w hK hP (wD_of hq rfl) hS rfl 0 (by decide) fl_45 rfl (by decide +kernel) rfl rfl (Nat.le_of_ble_eq_true rfl) rfl dX1_rounded_15 (fun H locs hP hS => ?_)
  have hP : va_P D cls2 (mW q cI cD (nI 0) (nI n) rC hh fi fo fw fe fr ff fp fl fc) H := hP
  refine lv_aload_n hx hb dX1_rounded_18 rfl (lv_at hl 0 rfl) ?_
  refine w_getM (own := RX1) (v := .int (nI 0)) S in_w hK hP rfl 0 (by decide) fl_45 rfl rfl dX1_rounded_19 ?_
  refine lv_if_le (tgt := 27) hx hb dX1_rounded_22 (by decide) (fun h22_1 => ?_) (fun h22_1 => absurd (by decide) h22_1)
  refine lv_aload_n hx hb dX1_rounded_27 rfl (lv_at hl 0 rfl) ?_
  refine lv_iload_n hx hb dX1_rounded_28 rfl (lv_at hl 1 rfl) ?_
  refine va_callv (va_runV (As := [.int (nI i)]) (rest := []) S (c_X1_roundRow hn hI hW hE hR hF (i := i) (by omega) ho hq) (cwV 1 hts gX1_rounded_X1_roundRow rfl rfl rfl hdX1_roundRow ⟨Nat.le_of_ble_eq_true rfl, Nat.le_of_ble_eq_true rfl⟩) (preV hK hP rfl rfl) rfl rfl hl.1 rfl (lv_room (Nat.le_of_ble_eq_true rfl)) dX1_rounded_29 ⟨Nat.zero_le _, Nat.zero_le _⟩) hS (fun _ _ h => h) (fun _ h => h) (fun u_3 t H locs ht hvm hw_4 hB hz1 hk1 hS => ?_)
  replace hB : va_P D cls2 _ t.heap := hB
  rw [ht] at hB
  have hP : va_P D cls2 (mW q cI cD (nI 0) (nI n) rC hh fi fo fw fe u_3.1 u_3.2 fp fl fc) H := hB
  refine lv_aload_n hx hb dX1_rounded_32 rfl (lv_at hl 0 rfl) ?_
  refine w_getM (own := RX1) (v := .ref (q 5)) S in_w hK hP rfl 7 (by decide) fl_27 rfl rfl dX1_rounded_33 ?_
  refine lv_bipush (v := nI 6) hx hb dX1_rounded_36 (by decide) ?_
  refine lv_iload_n hx hb dX1_rounded_38 rfl (lv_at hl 1 rfl) ?_
  refine w_imulL (N := 6) (y := 0) hx hb rfl dX1_rounded_39 ?_
  refine lv_iload_n hx hb dX1_rounded_40 rfl (lv_at hl 2 rfl) ?_
  refine w_iadd hx hb dX1_rounded_41 ?_
  refine w_iald hx hb hK hP 5 0 rfl rfl (j := 6 * i + k) (v := ((rrwM (opn w) n inf e i (rt, fs)).1) i k) (hw_4.1 i k (by omega) (by omega)) (by omega) (by decide) dX1_rounded_42 ?_
  subst hQ
  exact W.iret hx hb hr (fun t ht hWm => ⟨⟨_, (u_3.1, u_3.2), rfl, rfl, (show va_P D cls2 _ t.heap from by rw [ht]; exact hP)⟩, hS.F ht⟩) hS.2.2 dX1_rounded_43
set_option maxHeartbeats 4000000 in
set_option maxRecDepth 100000 in
theorem c_X1_roundedx {l : Launch} {D : va_G} {q : Nat → Nat} {cI cD : ClassId} {th rC : Int32} {hh : Int64} {fi fo fw : Nat → Int32} {fe : Nat → UInt64} {fr : Nat → Int32} {ff : Nat → UInt64} {fp fl fc : Nat → Int32} {n : Nat} (hn : 3 ≤ n ∧ n ≤ 6) {x y : Int32} (hxx : (armB n x && armB n y) = false) (hq : qD q) : Met l yX1_rounded wsX1_rounded rX1_rounded (va_Pc [.ref (q 0), .int x, .int y] (wPre D (tys2 cI cD) (mW q cI cD th (nI n) rC hh fi fo fw fe fr ff fp fl fc))) (va_Qi (fun r (u : Unit) => True) (fun u t => va_P D cls2 (mW q cI cD (nI 1) (nI n) rC hh fi fo fw fe fr ff fp fl fc) t.heap) (qA q)) 0 0 (qA q) := by
  refine met_intro (cc := cX1_rounded) (maxL := 3) (ret := (some .int)) (own := RX1) (by decide) rfl rfl (Nat.le_of_ble_eq_true rfl) ?_
  intro pp ee ss mm args below meth cd Q ls hQ S hr hlocks hv hB hl
  obtain ⟨hx, hb, hml, hown, hts⟩ := id S
  obtain ⟨hP, hK⟩ := hB
  have in_w : ∀ w ∈ wsX10, w ∈ wsX1_rounded := by decide +kernel
  have fl_45 : Cond.fieldLink RX1 45 RX1 (TX1 0).2.1 (TX1 0).2.2.1 ∈ wsX1_rounded := by decide +kernel
  have hS : va_S (qA q) ss.heap ss.heap [] := va_S.rf
  generalize hHg : ss.heap = H at hP
  have hS : va_S (qA q) ss.heap H [] := by rw [← hHg]; exact hS
  suffices hgo : ∀ locs : List Loc, va_S (qA q) ss.heap H locs → W pp l ee rX1_rounded ss mm args below meth cd H locs 0 0 Q (F0 mm 0 ls []) by
    first | exact hgo [] hS | (rw [hHg]; exact hgo [] hS)
  clear hS
  intro locs hS
  have hl : lv_has ls 3 [(0, .ref (q 0)), (1, .int x), (2, .int y)] := hl
  refine lv_aload_n hx hb dX1_rounded_0 rfl (lv_at hl 0 rfl) ?_
  refine lv_aload_n hx hb dX1_rounded_1 rfl (lv_at hl 0 rfl) ?_
  refine lv_iload_n hx hb dX1_rounded_2 rfl (lv_at hl 1 rfl) ?_
  refine lv_iload_n hx hb dX1_rounded_3 rfl (lv_at hl 2 rfl) ?_
  refine vp_callSi (W.runV (As := [.int x, .int y]) (rest := [.ref (q 0)]) S (c_X1_areArms (x := x) (y := y)) (cwV 2 hts gX1_rounded_X1_areArms rfl rfl rfl hdX1_areArms ⟨Nat.le_of_ble_eq_true rfl, Nat.le_of_ble_eq_true rfl⟩) (preV hK hP rfl rfl) rfl rfl hl.1 rfl (lv_room (Nat.le_of_ble_eq_true rfl)) dX1_rounded_4 ⟨Nat.zero_le _, Nat.zero_le _⟩) (fun r_1 er_1 => ?_)
  subst er_1
  refine w_ifBeq (tgt := 14) hx hb dX1_rounded_7 (by decide) (fun h7_0 => ?_) (fun h7_0 => absurd (hxx) (by rw [h7_0]; decide))
  refine lv_iconst (v := nI 1) hx hb dX1_rounded_14 (by decide) ?_
  refine w_putM (v := .int (nI 1)) (ty := .int) S in_w hK hP (wD_of hq rfl) hS rfl 0 (by decide) fl_45 rfl (by decide +kernel) rfl rfl (Nat.le_of_ble_eq_true rfl) rfl dX1_rounded_15 (fun H locs hP hS => ?_)
  have hP : va_P D cls2 (mW q cI cD (nI 1) (nI n) rC hh fi fo fw fe fr ff fp fl fc) H := hP
  refine lv_aload_n hx hb dX1_rounded_18 rfl (lv_at hl 0 rfl) ?_
  refine w_getM (own := RX1) (v := .int (nI 1)) S in_w hK hP rfl 0 (by decide) fl_45 rfl rfl dX1_rounded_19 ?_
  refine lv_if_le (tgt := 27) hx hb dX1_rounded_22 (by decide) (fun h22_1 => absurd h22_1 (by decide)) (fun h22_1 => ?_)
  refine lv_iconst (v := nI 0) hx hb dX1_rounded_25 (by decide) ?_
  subst hQ
  exact W.iret hx hb hr (fun t ht hWm => ⟨⟨_, (), rfl, trivial, (show va_P D cls2 _ t.heap from by rw [ht]; exact hP)⟩, hS.F ht⟩) hS.2.2 dX1_rounded_26
abbrev rX1_wholeMisfit : Room := { frames := 3, cells := 0, slots := 0, locals := 72 }
theorem hdX1_wholeMisfit : yX1_wholeMisfit.cls = RX1 ∧ yX1_wholeMisfit.cls ≠ "java/lang/invoke/MethodHandle" ∧ yX1_wholeMisfit.cls ≠ "java/lang/invoke/VarHandle" ∧ (parseMethodDescriptor yX1_wholeMisfit.desc).map (fun d => d.parameters.length) = some 0 := by decide +kernel
set_option maxHeartbeats 4000000 in
set_option maxRecDepth 100000 in
theorem c_X1_wholeMisfit {l : Launch} {D : va_G} {q : Nat → Nat} {cI cD : ClassId} {th rC : Int32} {hh : Int64} {fi fo fw : Nat → Int32} {fe : Nat → UInt64} {fr : Nat → Int32} {ff : Nat → UInt64} {fp fl fc : Nat → Int32} {n : Nat} (hn : 3 ≤ n ∧ n ≤ 6) {inf : Nat → Int32} (hI : ag1 n fi inf) {out : Nat → Int32} (hO : ag1 n fo out) {w : Nat → Nat → Int32} (hW : ag2 n fw w) {e : Nat → Nat → UInt64} (hE : ag2 n fe e) {rt : Nat → Nat → Int32} (hR : ag2 n fr rt) {fs : Nat → UInt64} (hF : ag1 n ff fs) (ho : ∀ i : Nat, i < n → okX n inf e i) (hq : qD q) : Met l yX1_wholeMisfit wsX1_wholeMisfit rX1_wholeMisfit (va_Pc [.ref (q 0)] (wPre D (tys2 cI cD) (mW q cI cD th (nI n) rC hh fi fo fw fe fr ff fp fl fc))) (va_Qi (fun r (u : (Nat → Int32) × (Nat → UInt64)) => r = mrD n (ralM (opn w) n inf e n (rt, fs)).1 out n ∧ ag2 n u.1 (ralM (opn w) n inf e n (rt, fs)).1 ∧ ag1 n u.2 (ralM (opn w) n inf e n (rt, fs)).2) (fun u t => va_P D cls2 (mW q cI cD th (nI n) rC hh fi fo fw fe u.1 u.2 fp fl fc) t.heap) (qA q)) 0 0 (qA q) := by
  refine met_intro (cc := cX1_wholeMisfit) (maxL := 5) (ret := (some .int)) (own := RX1) (by decide) rfl rfl (Nat.le_of_ble_eq_true rfl) ?_
  intro pp ee ss mm args below meth cd Q ls hQ S hr hlocks hv hB hl
  obtain ⟨hx, hb, hml, hown, hts⟩ := id S
  obtain ⟨hP, hK⟩ := hB
  have in_w : ∀ w ∈ wsX10, w ∈ wsX1_wholeMisfit := by decide +kernel
  have fl_7 : Cond.fieldLink RX1 7 RX1 (TX1 1).2.1 (TX1 1).2.2.1 ∈ wsX1_wholeMisfit := by decide +kernel
  have fl_17 : Cond.fieldLink RX1 17 RX1 (TX1 3).2.1 (TX1 3).2.2.1 ∈ wsX1_wholeMisfit := by decide +kernel
  have fl_27 : Cond.fieldLink RX1 27 RX1 (TX1 7).2.1 (TX1 7).2.2.1 ∈ wsX1_wholeMisfit := by decide +kernel
  have hS : va_S (qA q) ss.heap ss.heap [] := va_S.rf
  generalize hHg : ss.heap = H at hP
  have hS : va_S (qA q) ss.heap H [] := by rw [← hHg]; exact hS
  suffices hgo : ∀ locs : List Loc, va_S (qA q) ss.heap H locs → W pp l ee rX1_wholeMisfit ss mm args below meth cd H locs 0 0 Q (F0 mm 0 ls []) by
    first | exact hgo [] hS | (rw [hHg]; exact hgo [] hS)
  clear hS
  intro locs hS
  have hl : lv_has ls 5 [(0, .ref (q 0))] := hl
  refine lv_aload_n hx hb dX1_wholeMisfit_0 rfl (lv_at hl 0 rfl) ?_
  refine va_callv (va_runV (As := []) (rest := []) S (c_X1_layWhole hn hI hW hE hR hF ho hq) (cwV 0 hts gX1_wholeMisfit_X1_layWhole rfl rfl rfl hdX1_layWhole ⟨Nat.le_of_ble_eq_true rfl, Nat.le_of_ble_eq_true rfl⟩) (preV hK hP rfl rfl) rfl rfl hl.1 rfl (lv_room (Nat.le_of_ble_eq_true rfl)) dX1_wholeMisfit_1 ⟨Nat.zero_le _, Nat.zero_le _⟩) hS (fun _ _ h => h) (fun _ h => h) (fun u_2 t H locs ht hvm hw_3 hB hz1 hk1 hS => ?_)
  replace hB : va_P D cls2 _ t.heap := hB
  rw [ht] at hB
  have hP : va_P D cls2 (mW q cI cD th (nI n) rC hh fi fo fw fe u_2.1 u_2.2 fp fl fc) H := hB
  refine lv_iconst (v := nI 0) hx hb dX1_wholeMisfit_4 (by decide) ?_
  refine lv_istore_n (lv' := [(1, .int (nI 0)), (0, .ref (q 0))]) hx hb dX1_wholeMisfit_5 rfl hl (by decide) rfl (fun ls hl => ?_)
  refine lv_iconst (v := nI 0) hx hb dX1_wholeMisfit_6 (by decide) ?_
  refine lv_istore_n (lv' := [(2, .int (nI 0)), (1, .int (nI 0)), (0, .ref (q 0))]) hx hb dX1_wholeMisfit_7 rfl hl (by decide) rfl (fun ls hl => ?_)
  have lp8 : ∀ (j k : Nat), k + j = n → ∀ (H : Heap) (locs : List Loc), va_P D cls2 (mW q cI cD th (nI n) rC hh fi fo fw fe u_2.1 u_2.2 fp fl fc) H → va_S (qA q) ss.heap H locs → ∀ ls : Array Slot, lv_has ls 5 [(0, .ref (q 0)), (1, .int (mrD n (ralM (opn w) n inf e n (rt, fs)).1 out k)), (2, .int (nI k))] → W pp l ee rX1_wholeMisfit ss mm args below meth cd H locs 0 0 Q (F0 mm 8 ls []) := by
    intro j
    induction j with
    | zero =>
      intro k hk_k H locs hP hS ls hl
      have hke_k : n = k := by omega
      subst hke_k
      refine lv_iload_n hx hb dX1_wholeMisfit_8 rfl (lv_at hl 2 rfl) ?_
      refine lv_aload_n hx hb dX1_wholeMisfit_9 rfl (lv_at hl 0 rfl) ?_
      refine w_getM (own := RX1) (v := .int (nI n)) S in_w hK hP rfl 1 (by decide) fl_7 rfl rfl dX1_wholeMisfit_10 ?_
      refine lv_icmp_ge (tgt := 76) hx hb dX1_wholeMisfit_13 (by decide) (fun h13_0 => ?_) (fun h13_0 => absurd (Int32.le_refl _) h13_0)
      refine lv_iload_n hx hb dX1_wholeMisfit_76 rfl (lv_at hl 1 rfl) ?_
      subst hQ
      exact W.iret hx hb hr (fun t ht hWm => ⟨⟨_, (u_2.1, u_2.2), rfl, ⟨rfl, hw_3.1, hw_3.2⟩, (show va_P D cls2 _ t.heap from by rw [ht]; exact hP)⟩, hS.F ht⟩) hS.2.2 dX1_wholeMisfit_77
    | succ j ih =>
      intro k hk_k H locs hP hS ls hl
      have hlt_k : k < n := by omega
      refine lv_iload_n hx hb dX1_wholeMisfit_8 rfl (lv_at hl 2 rfl) ?_
      refine lv_aload_n hx hb dX1_wholeMisfit_9 rfl (lv_at hl 0 rfl) ?_
      refine w_getM (own := RX1) (v := .int (nI n)) S in_w hK hP rfl 1 (by decide) fl_7 rfl rfl dX1_wholeMisfit_10 ?_
      refine lv_icmp_ge (tgt := 76) hx hb dX1_wholeMisfit_13 (by decide) (fun h13_0 => absurd h13_0 (nI_ge hlt_k (by omega))) (fun h13_0 => ?_)
      refine lv_aload_n hx hb dX1_wholeMisfit_16 rfl (lv_at hl 0 rfl) ?_
      refine w_getM (own := RX1) (v := .ref (q 2)) S in_w hK hP rfl 3 (by decide) fl_17 rfl rfl dX1_wholeMisfit_17 ?_
      refine lv_iload_n hx hb dX1_wholeMisfit_20 rfl (lv_at hl 2 rfl) ?_
      refine w_iald hx hb hK hP 2 0 rfl rfl (j := k) (v := out k) (hO k (by omega)) (by omega) (by decide) dX1_wholeMisfit_21 ?_
      refine lv_ineg hx hb dX1_wholeMisfit_22 ?_
      refine lv_istore_n (lv' := [(3, .int (-(out k))), (0, .ref (q 0)), (1, .int (mrD n (ralM (opn w) n inf e n (rt, fs)).1 out k)), (2, .int (nI k))]) hx hb dX1_wholeMisfit_23 rfl hl (by decide) rfl (fun ls hl => ?_)
      refine lv_iconst (v := nI 0) hx hb dX1_wholeMisfit_24 (by decide) ?_
      refine lv_istore (lv' := [(4, .int (nI 0)), (3, .int (-(out k))), (0, .ref (q 0)), (1, .int (mrD n (ralM (opn w) n inf e n (rt, fs)).1 out k)), (2, .int (nI k))]) hx hb dX1_wholeMisfit_25 hl (by decide) rfl (fun ls hl => ?_)
      have lp27 : ∀ (j i : Nat), i + j = n → ∀ (H : Heap) (locs : List Loc), va_P D cls2 (mW q cI cD th (nI n) rC hh fi fo fw fe u_2.1 u_2.2 fp fl fc) H → va_S (qA q) ss.heap H locs → ∀ ls : Array Slot, lv_has ls 5 [(0, .ref (q 0)), (1, .int (mrD n (ralM (opn w) n inf e n (rt, fs)).1 out k)), (2, .int (nI k)), (3, .int (mrC (ralM (opn w) n inf e n (rt, fs)).1 out k i)), (4, .int (nI i))] → W pp l ee rX1_wholeMisfit ss mm args below meth cd H locs 0 0 Q (F0 mm 27 ls []) := by
        intro j
        induction j with
        | zero =>
          intro i hk_i H locs hP hS ls hl
          have hke_i : n = i := by omega
          subst hke_i
          refine lv_iload hx hb dX1_wholeMisfit_27 (lv_at hl 4 rfl) ?_
          refine lv_aload_n hx hb dX1_wholeMisfit_29 rfl (lv_at hl 0 rfl) ?_
          refine w_getM (own := RX1) (v := .int (nI n)) S in_w hK hP rfl 1 (by decide) fl_7 rfl rfl dX1_wholeMisfit_30 ?_
          refine lv_icmp_ge (tgt := 57) hx hb dX1_wholeMisfit_33 (by decide) (fun h33_1 => ?_) (fun h33_1 => absurd (Int32.le_refl _) h33_1)
          refine lv_iload_n hx hb dX1_wholeMisfit_57 rfl (lv_at hl 1 rfl) ?_
          refine lv_iload_n hx hb dX1_wholeMisfit_58 rfl (lv_at hl 3 rfl) ?_
          refine lv_if_ge (tgt := 67) hx hb dX1_wholeMisfit_59 (by decide) (fun h59_2 => ?_) (fun h59_2 => ?_)
          · refine lv_iload_n hx hb dX1_wholeMisfit_67 rfl (lv_at hl 3 rfl) ?_
            refine lv_iadd hx hb dX1_wholeMisfit_68 ?_
            refine lv_istore_n (lv' := [(1, .int ((mrD n (ralM (opn w) n inf e n (rt, fs)).1 out k) + (mrC (ralM (opn w) n inf e n (rt, fs)).1 out k n))), (0, .ref (q 0)), (2, .int (nI k)), (3, .int (mrC (ralM (opn w) n inf e n (rt, fs)).1 out k n)), (4, .int (nI n))]) hx hb dX1_wholeMisfit_69 rfl hl (by decide) rfl (fun ls hl => ?_)
            refine lv_iinc (v := nI (k + 1)) (lv' := [(2, .int (nI (k + 1))), (1, .int ((mrD n (ralM (opn w) n inf e n (rt, fs)).1 out k) + (mrC (ralM (opn w) n inf e n (rt, fs)).1 out k n))), (0, .ref (q 0)), (3, .int (mrC (ralM (opn w) n inf e n (rt, fs)).1 out k n)), (4, .int (nI n))]) hx hb dX1_wholeMisfit_70 hl (k := 2) rfl (by rw [show Int32.ofInt 1 = nI 1 from by decide, nI_add]) (by decide) rfl (fun ls hl => ?_)
            refine lv_goto (tgt := 8) hx hb dX1_wholeMisfit_73 (by decide) ?_
            have eq_4 : mrD n (ralM (opn w) n inf e n (rt, fs)).1 out (k + 1) = (mrD n (ralM (opn w) n inf e n (rt, fs)).1 out k) + (mrC (ralM (opn w) n inf e n (rt, fs)).1 out k n) := by (show mrD n (ralM (opn w) n inf e n (rt, fs)).1 out k + nab (mrC (ralM (opn w) n inf e n (rt, fs)).1 out k n) = _; unfold nab; simp only [h59_2, reduceIte])
            have hl : lv_has ls 5 [(2, .int (nI (k + 1))), (1, .int (mrD n (ralM (opn w) n inf e n (rt, fs)).1 out (k + 1))), (0, .ref (q 0)), (3, .int (mrC (ralM (opn w) n inf e n (rt, fs)).1 out k n)), (4, .int (nI n))] := by first | exact hl | (rw [eq_4]; exact hl)
            exact ih (k + 1) (by omega) _ _ hP hS ls (lv_sub hl [2, 1, 0] rfl)
          · refine lv_iload_n hx hb dX1_wholeMisfit_62 rfl (lv_at hl 3 rfl) ?_
            refine lv_ineg hx hb dX1_wholeMisfit_63 ?_
            refine lv_goto (tgt := 68) hx hb dX1_wholeMisfit_64 (by decide) ?_
            refine lv_iadd hx hb dX1_wholeMisfit_68 ?_
            refine lv_istore_n (lv' := [(1, .int ((mrD n (ralM (opn w) n inf e n (rt, fs)).1 out k) + (-(mrC (ralM (opn w) n inf e n (rt, fs)).1 out k n)))), (0, .ref (q 0)), (2, .int (nI k)), (3, .int (mrC (ralM (opn w) n inf e n (rt, fs)).1 out k n)), (4, .int (nI n))]) hx hb dX1_wholeMisfit_69 rfl hl (by decide) rfl (fun ls hl => ?_)
            refine lv_iinc (v := nI (k + 1)) (lv' := [(2, .int (nI (k + 1))), (1, .int ((mrD n (ralM (opn w) n inf e n (rt, fs)).1 out k) + (-(mrC (ralM (opn w) n inf e n (rt, fs)).1 out k n)))), (0, .ref (q 0)), (3, .int (mrC (ralM (opn w) n inf e n (rt, fs)).1 out k n)), (4, .int (nI n))]) hx hb dX1_wholeMisfit_70 hl (k := 2) rfl (by rw [show Int32.ofInt 1 = nI 1 from by decide, nI_add]) (by decide) rfl (fun ls hl => ?_)
            refine lv_goto (tgt := 8) hx hb dX1_wholeMisfit_73 (by decide) ?_
            have eq_5 : mrD n (ralM (opn w) n inf e n (rt, fs)).1 out (k + 1) = (mrD n (ralM (opn w) n inf e n (rt, fs)).1 out k) + (-(mrC (ralM (opn w) n inf e n (rt, fs)).1 out k n)) := by (show mrD n (ralM (opn w) n inf e n (rt, fs)).1 out k + nab (mrC (ralM (opn w) n inf e n (rt, fs)).1 out k n) = _; unfold nab; simp only [h59_2, reduceIte])
            have hl : lv_has ls 5 [(2, .int (nI (k + 1))), (1, .int (mrD n (ralM (opn w) n inf e n (rt, fs)).1 out (k + 1))), (0, .ref (q 0)), (3, .int (mrC (ralM (opn w) n inf e n (rt, fs)).1 out k n)), (4, .int (nI n))] := by first | exact hl | (rw [eq_5]; exact hl)
            exact ih (k + 1) (by omega) _ _ hP hS ls (lv_sub hl [2, 1, 0] rfl)
        | succ j ih =>
          intro i hk_i H locs hP hS ls hl
          have hlt_i : i < n := by omega
          refine lv_iload hx hb dX1_wholeMisfit_27 (lv_at hl 4 rfl) ?_
          refine lv_aload_n hx hb dX1_wholeMisfit_29 rfl (lv_at hl 0 rfl) ?_
          refine w_getM (own := RX1) (v := .int (nI n)) S in_w hK hP rfl 1 (by decide) fl_7 rfl rfl dX1_wholeMisfit_30 ?_
          refine lv_icmp_ge (tgt := 57) hx hb dX1_wholeMisfit_33 (by decide) (fun h33_1 => absurd h33_1 (nI_ge hlt_i (by omega))) (fun h33_1 => ?_)
          refine lv_iload_n hx hb dX1_wholeMisfit_36 rfl (lv_at hl 3 rfl) ?_
          refine lv_aload_n hx hb dX1_wholeMisfit_37 rfl (lv_at hl 0 rfl) ?_
          refine w_getM (own := RX1) (v := .ref (q 5)) S in_w hK hP rfl 7 (by decide) fl_27 rfl rfl dX1_wholeMisfit_38 ?_
          refine lv_bipush (v := nI 6) hx hb dX1_wholeMisfit_41 (by decide) ?_
          refine lv_iload hx hb dX1_wholeMisfit_43 (lv_at hl 4 rfl) ?_
          refine w_imulL (N := 6) (y := 0) hx hb rfl dX1_wholeMisfit_45 ?_
          refine lv_iload_n hx hb dX1_wholeMisfit_46 rfl (lv_at hl 2 rfl) ?_
          refine w_iadd hx hb dX1_wholeMisfit_47 ?_
          refine w_iald hx hb hK hP 5 0 rfl rfl (j := 6 * i + k) (v := ((ralM (opn w) n inf e n (rt, fs)).1) i k) (hw_3.1 i k (by omega) (by omega)) (by omega) (by decide) dX1_wholeMisfit_48 ?_
          refine lv_iadd hx hb dX1_wholeMisfit_49 ?_
          refine lv_istore_n (lv' := [(3, .int ((mrC (ralM (opn w) n inf e n (rt, fs)).1 out k i) + (((ralM (opn w) n inf e n (rt, fs)).1) i k))), (0, .ref (q 0)), (1, .int (mrD n (ralM (opn w) n inf e n (rt, fs)).1 out k)), (2, .int (nI k)), (4, .int (nI i))]) hx hb dX1_wholeMisfit_50 rfl hl (by decide) rfl (fun ls hl => ?_)
          refine lv_iinc (v := nI (i + 1)) (lv' := [(4, .int (nI (i + 1))), (3, .int ((mrC (ralM (opn w) n inf e n (rt, fs)).1 out k i) + (((ralM (opn w) n inf e n (rt, fs)).1) i k))), (0, .ref (q 0)), (1, .int (mrD n (ralM (opn w) n inf e n (rt, fs)).1 out k)), (2, .int (nI k))]) hx hb dX1_wholeMisfit_51 hl (k := 4) rfl (by rw [show Int32.ofInt 1 = nI 1 from by decide, nI_add]) (by decide) rfl (fun ls hl => ?_)
          refine lv_goto (tgt := 27) hx hb dX1_wholeMisfit_54 (by decide) ?_
          have eq_6 : mrC (ralM (opn w) n inf e n (rt, fs)).1 out k (i + 1) = (mrC (ralM (opn w) n inf e n (rt, fs)).1 out k i) + (((ralM (opn w) n inf e n (rt, fs)).1) i k) := by rfl
          have hl : lv_has ls 5 [(4, .int (nI (i + 1))), (3, .int (mrC (ralM (opn w) n inf e n (rt, fs)).1 out k (i + 1))), (0, .ref (q 0)), (1, .int (mrD n (ralM (opn w) n inf e n (rt, fs)).1 out k)), (2, .int (nI k))] := by first | exact hl | (rw [eq_6]; exact hl)
          exact ih (i + 1) (by omega) _ _ hP hS ls (lv_sub hl [2, 3, 4, 1, 0] rfl)
      exact lp27 (n - 0) 0 (by omega) _ _ hP hS ls (lv_sub hl [2, 3, 4, 1, 0] rfl)
  exact lp8 (n - 0) 0 (by omega) _ _ hP hS ls (lv_sub hl [2, 1, 0] rfl)
abbrev rX1_roundedMisfit : Room := { frames := 4, cells := 0, slots := 0, locals := 96 }
theorem hdX1_roundedMisfit : yX1_roundedMisfit.cls = RX1 ∧ yX1_roundedMisfit.cls ≠ "java/lang/invoke/MethodHandle" ∧ yX1_roundedMisfit.cls ≠ "java/lang/invoke/VarHandle" ∧ (parseMethodDescriptor yX1_roundedMisfit.desc).map (fun d => d.parameters.length) = some 0 := by decide +kernel
set_option maxHeartbeats 4000000 in
set_option maxRecDepth 100000 in
theorem c_X1_roundedMisfit {l : Launch} {D : va_G} {q : Nat → Nat} {cI cD : ClassId} {th rC : Int32} {hh : Int64} {fi fo fw : Nat → Int32} {fe : Nat → UInt64} {fr : Nat → Int32} {ff : Nat → UInt64} {fp fl fc : Nat → Int32} {n : Nat} (hn : 3 ≤ n ∧ n ≤ 6) {inf : Nat → Int32} (hI : ag1 n fi inf) {out : Nat → Int32} (hO : ag1 n fo out) {w : Nat → Nat → Int32} (hW : ag2 n fw w) {e : Nat → Nat → UInt64} (hE : ag2 n fe e) {rt : Nat → Nat → Int32} (hR : ag2 n fr rt) {fs : Nat → UInt64} (hF : ag1 n ff fs) (ho : ∀ i : Nat, i < n → okX n inf e i) (hq : qD q) : Met l yX1_roundedMisfit wsX1_roundedMisfit rX1_roundedMisfit (va_Pc [.ref (q 0)] (wPre D (tys2 cI cD) (mW q cI cD th (nI n) rC hh fi fo fw fe fr ff fp fl fc))) (va_Qi (fun r (u : (Nat → Int32) × (Nat → UInt64)) => r = mrD n (ralM (opn w) n inf e n (rt, fs)).1 out n) (fun u t => va_P D cls2 (mW q cI cD (nI 0) (nI n) rC hh fi fo fw fe u.1 u.2 fp fl fc) t.heap) (qA q)) 0 0 (qA q) := by
  refine met_intro (cc := cX1_roundedMisfit) (maxL := 1) (ret := (some .int)) (own := RX1) (by decide) rfl rfl (Nat.le_of_ble_eq_true rfl) ?_
  intro pp ee ss mm args below meth cd Q ls hQ S hr hlocks hv hB hl
  obtain ⟨hx, hb, hml, hown, hts⟩ := id S
  obtain ⟨hP, hK⟩ := hB
  have in_w : ∀ w ∈ wsX10, w ∈ wsX1_roundedMisfit := by decide +kernel
  have fl_45 : Cond.fieldLink RX1 45 RX1 (TX1 0).2.1 (TX1 0).2.2.1 ∈ wsX1_roundedMisfit := by decide +kernel
  have hS : va_S (qA q) ss.heap ss.heap [] := va_S.rf
  generalize hHg : ss.heap = H at hP
  have hS : va_S (qA q) ss.heap H [] := by rw [← hHg]; exact hS
  suffices hgo : ∀ locs : List Loc, va_S (qA q) ss.heap H locs → W pp l ee rX1_roundedMisfit ss mm args below meth cd H locs 0 0 Q (F0 mm 0 ls []) by
    first | exact hgo [] hS | (rw [hHg]; exact hgo [] hS)
  clear hS
  intro locs hS
  have hl : lv_has ls 1 [(0, .ref (q 0))] := hl
  refine lv_aload_n hx hb dX1_roundedMisfit_0 rfl (lv_at hl 0 rfl) ?_
  refine lv_iconst (v := nI 0) hx hb dX1_roundedMisfit_1 (by decide) ?_
  refine w_putM (v := .int (nI 0)) (ty := .int) S in_w hK hP (wD_of hq rfl) hS rfl 0 (by decide) fl_45 rfl (by decide +kernel) rfl rfl (Nat.le_of_ble_eq_true rfl) rfl dX1_roundedMisfit_2 (fun H locs hP hS => ?_)
  have hP : va_P D cls2 (mW q cI cD (nI 0) (nI n) rC hh fi fo fw fe fr ff fp fl fc) H := hP
  refine lv_aload_n hx hb dX1_roundedMisfit_5 rfl (lv_at hl 0 rfl) ?_
  refine va_calli (va_runV (As := []) (rest := []) S (c_X1_wholeMisfit hn hI hO hW hE hR hF ho hq) (cwV 0 hts gX1_roundedMisfit_X1_wholeMisfit rfl rfl rfl hdX1_wholeMisfit ⟨Nat.le_of_ble_eq_true rfl, Nat.le_of_ble_eq_true rfl⟩) (preV hK hP rfl rfl) rfl rfl hl.1 rfl (lv_room (Nat.le_of_ble_eq_true rfl)) dX1_roundedMisfit_6 ⟨Nat.zero_le _, Nat.zero_le _⟩) hS (fun _ _ h => h) (fun _ h => h) (fun r_1 u_2 t H locs ht hvm hw_3 hB hz1 hk1 hS => ?_)
  replace hB : va_P D cls2 _ t.heap := hB
  rw [ht] at hB
  have he_4 := hw_3.1
  subst he_4
  have hP : va_P D cls2 (mW q cI cD (nI 0) (nI n) rC hh fi fo fw fe u_2.1 u_2.2 fp fl fc) H := hB
  subst hQ
  exact W.iret hx hb hr (fun t ht hWm => ⟨⟨_, (u_2.1, u_2.2), rfl, rfl, (show va_P D cls2 _ t.heap from by rw [ht]; exact hP)⟩, hS.F ht⟩) hS.2.2 dX1_roundedMisfit_9
