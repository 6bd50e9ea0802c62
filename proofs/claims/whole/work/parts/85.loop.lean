theorem and31 (v : Int32) : ∃ t : Nat, t < 32 ∧ v &&& nI 31 = nI t := by
  refine ⟨(v.toBitVec &&& 31#32).toNat, ?_, ?_⟩
  · rw [BitVec.toNat_and]
    exact Nat.lt_of_le_of_lt Nat.and_le_right (by decide)
  · apply Int32.toBitVec_inj.mp
    show v.toBitVec &&& 31#32 = BitVec.ofNat 32 (v.toBitVec &&& 31#32).toNat
    rw [BitVec.ofNat_toNat, BitVec.setWidth_eq]
theorem sd_eta (s : State) : s.setDrawn s.drawn = s := rfl
set_option maxHeartbeats 8000000 in
set_option maxRecDepth 100000 in
theorem law_loop {p : Program} {l : Launch} {e9 : Env} {s : State} {m : MethodId} {below : List Frame} {meth : Method} {c : Code} {b L : Nat} {xs : Nat → Int32} {D : va_G} {q q' : Nat → Nat} {o o2 : Nat} {cI cD cJ : ClassId} {sa : Nat → Nat} (C : LCx p l s m meth c b L xs D q q' o o2 cI cD cJ sa) : ∀ (f k : Nat), k + f = 513 → 5 * k ≤ L + 4 →
    ∀ {n : Nat} {rC : Int32} {inf out : Nat → Int32} {w : Nat → Nat → Int32} {e : Nat → Nat → UInt64} {H : Heap} {locs : List Loc} {ls : Array Slot}, OKs n inf out w e → LX D q o o2 cI cD cJ n rC inf out w e H → LM D q' cI cD n rC inf out w e H → va_S (fun x : Nat => s.heap.size ≤ x) s.heap H locs → lv_has ls 10 (lvL q q' b o o2 (5 * k)) → W p l e9 room_1 s m #[Value.ref b] below meth c H locs (30 + k) (800 + 6 * k) (lw_Z below #[Value.ref b] s) (F0 m 28 ls []) := by
  have C0 := C
  obtain ⟨S, ⟨hr, hlocks⟩, hK, -, ⟨hXs, hbl, hL⟩, -⟩ := C0
  obtain ⟨hx, hb, hml, hown, hts⟩ := id S
  intro f
  induction f with
  | zero =>
    intro k hk h5
    omega
  | succ f ih =>
    intro k hk h5 n rC inf out w e H locs ls hOK hX hM hS hl
    refine lv_iload hx hb dL_law_28 (lv_at hl 5 rfl) ?_
    refine lv_aload_n hx hb dL_law_30 rfl (lv_at hl 0 rfl) ?_
    refine va_slen hx hb hXs hbl (Nat.not_le_of_lt hbl) hS dL_law_31 ?_
    refine lv_iconst (v := nI 5) hx hb dL_law_32 (by decide) ?_
    refine lv_isub hx hb dL_law_33 ?_
    have eL : (Int32.ofNat L - nI 5).toInt = (L : Int) - 5 := by
      have e1 : (Int32.ofNat L).toInt = L := nI_toInt (by omega)
      have e2 : (nI 5).toInt = 5 := nI_toInt (by decide)
      rw [toInt_subS (by omega) (by omega), e1, e2]
    have eK : (nI (5 * k)).toInt = ((5 * k : Nat) : Int) := nI_toInt (by omega)
    refine lv_icmp_gt (tgt := 1361) hx hb dL_law_34 (by decide) (fun hg => ?_) (fun hg => ?_)
    · refine lv_iconst (v := 1) hx hb dL_law_1361 (by decide) ?_
      refine va_forget (fun q hq => hS.2.2 q hq) ?_
      refine W.widen (k := 3098) (n := 119182) (by omega) (by omega) ?_
      exact lw_ret (d0 := s.drawn) (Drawn.sameBut.refl s.drawn lw_cs) hx hb hr hlocks dL_law_1362
    · rw [Int32.lt_iff_toInt_lt, eL, eK] at hg
      have hi : 5 * k + 4 < L := by omega
      have hcc : (30 + k) + 1 ≤ 3098 ∧ (800 + 6 * k) + 6 ≤ 119182 := by omega
      have hKK : LK p l e9 s m below meth c b D q q' o o2 cI cD cJ (5 * k) (30 + k) (800 + 6 * k) (lw_Z below #[Value.ref b] s) := by
        intro n rC inf out w e H locs ls hOK hX hM hS hl
        refine lv_iinc (v := nI (5 * (k + 1))) (lv' := [(5, .int (nI (5 * (k + 1)))), (0, .ref b), (1, .ref (q 0)), (2, .ref (q' 0)), (3, .ref o), (4, .ref o2)]) hx hb dL_law_1355 hl (k := 5) rfl (by rw [show Int32.ofInt 5 = nI 5 from by decide, nI_add]; rfl) (by decide) rfl (fun ls hl => ?_)
        refine lv_goto (tgt := 28) hx hb dL_law_1358 (by decide) ?_
        exact ih (k + 1) (by omega) (by omega) hOK hX hM hS (lv_sub hl [1, 2, 3, 4, 5, 0] rfl)
      refine lv_aload_n hx hb dL_law_37 rfl (lv_at hl 0 rfl) ?_
      refine lv_iload hx hb dL_law_38 (lv_at hl 5 rfl) ?_
      refine w_scr hx hb hXs hbl hS (k := 5 * k) (v := xs (5 * k)) rfl (by omega) hL dL_law_40 ?_
      refine lv_bipush (v := nI 31) hx hb dL_law_41 (by decide) ?_
      refine lv_iand hx hb dL_law_43 ?_
      obtain ⟨t, ht, et⟩ := and31 (xs (5 * k))
      rw [et]
      have tv : (nI t).toInt = (t : Int) := nI_toInt (by omega)
      clear hg eL eK et h5
      by_cases h0 : t = 0
      · subst h0
        exact lv_tableIn (off := 112) (tgt := 156) hx hb dL_law_44 (by rw [tv]; decide) (by rw [tv]; decide) (by rw [tv]; rfl) (by decide) (law_0 C hi hcc hKK hOK hX hM hS hl)
      by_cases h1 : t = 1
      · subst h1
        exact lv_tableIn (off := 168) (tgt := 212) hx hb dL_law_44 (by rw [tv]; decide) (by rw [tv]; decide) (by rw [tv]; rfl) (by decide) (law_1 C hi hcc hKK hOK hX hM hS hl)
      by_cases h2 : t = 2
      · subst h2
        exact lv_tableIn (off := 181) (tgt := 225) hx hb dL_law_44 (by rw [tv]; decide) (by rw [tv]; decide) (by rw [tv]; rfl) (by decide) (law_2 C hi hcc hKK hOK hX hM hS hl)
      by_cases h3 : t = 3
      · subst h3
        exact lv_tableIn (off := 249) (tgt := 293) hx hb dL_law_44 (by rw [tv]; decide) (by rw [tv]; decide) (by rw [tv]; rfl) (by decide) (law_3 C hi hcc hKK hOK hX hM hS hl)
      by_cases h4 : t = 4
      · subst h4
        exact lv_tableIn (off := 317) (tgt := 361) hx hb dL_law_44 (by rw [tv]; decide) (by rw [tv]; decide) (by rw [tv]; rfl) (by decide) (law_4 C hi hcc hKK hOK hX hM hS hl)
      by_cases h5 : t = 5
      · subst h5
        exact lv_tableIn (off := 397) (tgt := 441) hx hb dL_law_44 (by rw [tv]; decide) (by rw [tv]; decide) (by rw [tv]; rfl) (by decide) (law_5 C hi hcc hKK hOK hX hM hS hl)
      by_cases h6 : t = 6
      · subst h6
        exact lv_tableIn (off := 453) (tgt := 497) hx hb dL_law_44 (by rw [tv]; decide) (by rw [tv]; decide) (by rw [tv]; rfl) (by decide) (law_6 C hi hcc hKK hOK hX hM hS hl)
      by_cases h7 : t = 7
      · subst h7
        exact lv_tableIn (off := 466) (tgt := 510) hx hb dL_law_44 (by rw [tv]; decide) (by rw [tv]; decide) (by rw [tv]; rfl) (by decide) (law_7 C hi hcc hKK hOK hX hM hS hl)
      by_cases h8 : t = 8
      · subst h8
        exact lv_tableIn (off := 479) (tgt := 523) hx hb dL_law_44 (by rw [tv]; decide) (by rw [tv]; decide) (by rw [tv]; rfl) (by decide) (law_8 C hi hcc hKK hOK hX hM hS hl)
      by_cases h9 : t = 9
      · subst h9
        exact lv_tableIn (off := 492) (tgt := 536) hx hb dL_law_44 (by rw [tv]; decide) (by rw [tv]; decide) (by rw [tv]; rfl) (by decide) (law_9 C hi hcc hKK hOK hX hM hS hl)
      by_cases h10 : t = 10
      · subst h10
        exact lv_tableIn (off := 548) (tgt := 592) hx hb dL_law_44 (by rw [tv]; decide) (by rw [tv]; decide) (by rw [tv]; rfl) (by decide) (law_10 C hi hcc hKK hOK hX hM hS hl)
      by_cases h11 : t = 11
      · subst h11
        exact lv_tableIn (off := 604) (tgt := 648) hx hb dL_law_44 (by rw [tv]; decide) (by rw [tv]; decide) (by rw [tv]; rfl) (by decide) (law_11 C hi hcc hKK hOK hX hM hS hl)
      by_cases h12 : t = 12
      · subst h12
        exact lv_tableIn (off := 672) (tgt := 716) hx hb dL_law_44 (by rw [tv]; decide) (by rw [tv]; decide) (by rw [tv]; rfl) (by decide) (law_12 C hi hcc hKK hOK hX hM hS hl)
      by_cases h13 : t = 13
      · subst h13
        exact lv_tableIn (off := 685) (tgt := 729) hx hb dL_law_44 (by rw [tv]; decide) (by rw [tv]; decide) (by rw [tv]; rfl) (by decide) (law_13 C hi hcc hKK hOK hX hM hS hl)
      by_cases h14 : t = 14
      · subst h14
        exact lv_tableIn (off := 698) (tgt := 742) hx hb dL_law_44 (by rw [tv]; decide) (by rw [tv]; decide) (by rw [tv]; rfl) (by decide) (law_14 C hi hcc hKK hOK hX hM hS hl)
      by_cases h15 : t = 15
      · subst h15
        exact lv_tableIn (off := 787) (tgt := 831) hx hb dL_law_44 (by rw [tv]; decide) (by rw [tv]; decide) (by rw [tv]; rfl) (by decide) (law_15 C hi hcc hKK hOK hX hM hS hl)
      by_cases h16 : t = 16
      · subst h16
        exact lv_tableIn (off := 892) (tgt := 936) hx hb dL_law_44 (by rw [tv]; decide) (by rw [tv]; decide) (by rw [tv]; rfl) (by decide) (law_16 C hi hcc hKK hOK hX hM hS hl)
      by_cases h17 : t = 17
      · subst h17
        exact lv_tableIn (off := 933) (tgt := 977) hx hb dL_law_44 (by rw [tv]; decide) (by rw [tv]; decide) (by rw [tv]; rfl) (by decide) (law_17 C hi hcc hKK hOK hX hM hS hl)
      by_cases h18 : t = 18
      · subst h18
        exact lv_tableIn (off := 1022) (tgt := 1066) hx hb dL_law_44 (by rw [tv]; decide) (by rw [tv]; decide) (by rw [tv]; rfl) (by decide) (law_18 C hi hcc hKK hOK hX hM hS hl)
      by_cases h19 : t = 19
      · subst h19
        exact lv_tableIn (off := 1135) (tgt := 1179) hx hb dL_law_44 (by rw [tv]; decide) (by rw [tv]; decide) (by rw [tv]; rfl) (by decide) (law_19 C hi hcc hKK hOK hX hM hS hl)
      by_cases h20 : t = 20
      · subst h20
        exact lv_tableIn (off := 1148) (tgt := 1192) hx hb dL_law_44 (by rw [tv]; decide) (by rw [tv]; decide) (by rw [tv]; rfl) (by decide) (law_20 C hi hcc hKK hOK hX hM hS hl)
      by_cases h21 : t = 21
      · subst h21
        exact lv_tableIn (off := 1216) (tgt := 1260) hx hb dL_law_44 (by rw [tv]; decide) (by rw [tv]; decide) (by rw [tv]; rfl) (by decide) (law_21 C hi hcc hKK hOK hX hM hS hl)
      by_cases h22 : t = 22
      · subst h22
        exact lv_tableIn (off := 1229) (tgt := 1273) hx hb dL_law_44 (by rw [tv]; decide) (by rw [tv]; decide) (by rw [tv]; rfl) (by decide) (law_22 C hi hcc hKK hOK hX hM hS hl)
      by_cases h23 : t = 23
      · subst h23
        exact lv_tableIn (off := 1297) (tgt := 1341) hx hb dL_law_44 (by rw [tv]; decide) (by rw [tv]; decide) (by rw [tv]; rfl) (by decide) (law_23 C hi hcc hKK hOK hX hM hS hl)
      refine lv_tableOut (tgt := 1355) hx hb dL_law_44 (by rw [tv]; right; omega) (by decide) ?_
      refine W.widen (k := 30 + k + 1) (n := 800 + 6 * k + 6) (Nat.le_succ _) (Nat.le_add_right _ 6) ?_
      exact hKK n rC inf out w e H locs ls hOK hX hM hS hl
