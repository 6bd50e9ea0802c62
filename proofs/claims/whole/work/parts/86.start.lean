theorem arr_of {args : Array Value} {s : State} {ty : FieldType} (h : (Cond.arrayClass ty).before args s = true) : ∃ cA : ClassId, ArrOfT s cA ty ∧ s.vm.findClass ("[" ++ ty.toString) = some cA := by
  obtain ⟨c, k, comp, h1, h2, h3⟩ := Cond.arrayClass_spec h
  exact ⟨c, fun n z => ⟨fun _ h => (by cases h), k, h2, comp, h3⟩, h1⟩
theorem qf_D {A : Nat → Prop} {w : va_W} {q : Nat → Nat} (hq : qD q) (he : w.map (fun x => x.1) = [q 0, q 1, q 2, q 3, q 4, q 5, q 6, q 7, q 8, q 9]) (hA : ∀ k : Nat, k < 10 → A (q k)) : va_D A w :=
  ⟨(wD_of hq he).1, fun k x hx => by obtain ⟨j, hj, ej⟩ := (wD_of hq he).2 k x hx; rw [ej]; exact hA j hj⟩
theorem str_R {args : Array Value} {s : State} {own tx : String} {k : Nat} {cur : ClassId} (hc : s.vm.findClass own = some cur) (h : (Cond.stringRef own k tx).before args s = true) : ∃ a : Nat, vk_R own k tx a s := by
  obtain ⟨_, _, _, a, _, _, _, _, _, h6⟩ := Cond.stringRef_spec hc h
  exact ⟨a, vk_R.of h h6⟩
set_option maxHeartbeats 8000000 in
set_option maxRecDepth 100000 in
theorem xG_of {s : State} {b : Nat} {cur : ClassId} (hc : s.vm.findClass RX0 = some cur) (hts0 : ∀ w ∈ lw_tbl, w.before #[Value.ref b] s = true) (hgv : (Jvm.Cond.and given_1 narrow_1).before #[Value.ref b] s = true) : ∃ sa : Nat → Nat, xG sa s s.heap := by
  have hs := flat_of_before _ hgv
  obtain ⟨a0, h0⟩ := str_R (k := 154) (tx := "the arm does not exist") hc (hts0 (.stringRef RX0 154 "the arm does not exist") (by decide +kernel))
  obtain ⟨a1, h1⟩ := str_R (k := 159) (tx := "the argument is out of its range") hc (hts0 (.stringRef RX0 159 "the argument is out of its range") (by decide +kernel))
  obtain ⟨a2, h2⟩ := str_R (k := 164) (tx := "a count would become greater than 9999") hc (hts0 (.stringRef RX0 164 "a count would become greater than 9999") (by decide +kernel))
  obtain ⟨a3, h3⟩ := str_R (k := 118) (tx := "the second product is not greater than 0.0") hc (hts0 (.stringRef RX0 118 "the second product is not greater than 0.0") (by decide +kernel))
  refine ⟨fun k => [a0, a1, a2, a3].getD k 0, ⟨vx_Zqof (hts0 (.laysStatic Bundle.tN "UNASSIGNED_STACK" Bundle.steD) (by decide +kernel)) (hts0 (.initialized Bundle.tN) (by decide +kernel)) (hs (.isRef (.static Bundle.tN "UNASSIGNED_STACK" Bundle.steD)) (by decide +kernel)) (fun _ _ h => h), vx_Zqof (hts0 (.laysStatic Bundle.tN "SUPPRESSED_SENTINEL" Bundle.listD) (by decide +kernel)) (hts0 (.initialized Bundle.tN) (by decide +kernel)) (hs (.isRef (.static Bundle.tN "SUPPRESSED_SENTINEL" Bundle.listD)) (by decide +kernel)) (fun _ _ h => h)⟩, ⟨h0, h1, h2, h3⟩, ?_, va_Nc.of (hs (.not (.castable eA eI)) (by decide +kernel)), va_Nc.of (hs (.not (.castable eS eA)) (by decide +kernel)), va_Nc.of (hs (.not (.castable eR eI)) (by decide +kernel))⟩
  intro w hw
  simp only [xWs, List.mem_cons, List.not_mem_nil, or_false] at hw
  rcases hw with rfl | rfl | rfl | rfl | rfl | rfl | rfl
  · exact va_Nw.of rfl (hts0 _ (by decide +kernel))
  · exact va_Nw.of rfl (hts0 _ (by decide +kernel))
  · exact va_Nw.of rfl (hts0 _ (by decide +kernel))
  · exact va_Nw.of rfl (hts0 _ (by decide +kernel))
  · exact va_Nw.of rfl (hts0 _ (by decide +kernel))
  · exact va_Nw.of rfl (hts0 _ (by decide +kernel))
  · exact va_Nw.of rfl (hts0 _ (by decide +kernel))
theorem notr {l : Launch} (h : l.flags = flags0) : l.stackTraces = false := by
  unfold Launch.stackTraces
  rw [h]; decide +kernel
set_option maxHeartbeats 8000000 in
set_option maxRecDepth 100000 in
theorem whole_start {p : Program} {e : Env} {s : State} {m : MethodId} {below : List Frame} {meth : Method} {c : Code} (l : Launch) (hflags : l.flags = flags0) {b L : Nat} {xs : Nat → Int32} (hL : L ≤ 2560) (C0 : lw_At p s m meth c b L xs) : W p l e room_1 s m #[Value.ref b] below meth c s.heap [] 0 0 (lw_Z below #[Value.ref b] s) (entryFrame m ([Value.ref b] : List Value).toArray 10) := by
  obtain ⟨hx, hb, hr, hml, hown, hts0, hX, hbl, hlocks, hgv⟩ := id C0
  have hts : ∀ w ∈ wsL_law, w.before #[Value.ref b] s = true := fun w h => hts0 w (wsL_law_in w h)
  have hown : s.vm.findClass RL = some m.cls := hown
  have S : CallFix p m c cL_law 10 s #[Value.ref b] wsL_law RL := ⟨hx, hb, hml, hown, hts⟩
  have hA : ∀ q : Nat, s.heap.size ≤ q → (fun q : Nat => s.heap.size ≤ q) q := fun _ h => h
  obtain ⟨c0, iS0, hKn0⟩ := u_known (C := RX0) (T := TX0) (N := 11) (n := 11) hts inlX0 (hts0 (.instantiable RX0 11) (by decide +kernel))
  obtain ⟨c1, iS1, hKn1⟩ := u_known (C := RX1) (T := TX1) (N := 13) (n := 13) hts inlX1 (hts0 (.instantiable RX1 13) (by decide +kernel))
  obtain ⟨cc0, _, hfc0, _⟩ := Cond.instantiable_spec (hts0 (.instantiable RX0 11) (by decide +kernel))
  obtain ⟨sa, hG⟩ := xG_of hfc0 hts0 hgv
  obtain ⟨D, hKc⟩ : ∃ D : va_G, ∀ (k : Nat) (q : vw_C), cls2[k]? = some q → u_Kn s q.1 q.2.1 q.2.2 (D.1 k) (D.2 k) := by
    refine ⟨(fun k => if k = 0 then c0 else c1, fun k => if k = 0 then iS0 else iS1), ?_⟩
    intro k q hq
    match k, hq with
    | 0, hq => cases hq; exact hKn0
    | 1, hq => cases hq; exact hKn1
    | k + 2, hq => simp at hq
  obtain ⟨cI, hcI⟩ := arr_of (hts0 (.arrayClass .int) (by decide +kernel))
  obtain ⟨cD, hcD⟩ := arr_of (hts0 (.arrayClass .double) (by decide +kernel))
  have hK : va_K D cls2 (tys2 cI cD) s := ⟨hKc, fun k q h => by
    match k, h with
    | 0, h => cases h; exact hcI
    | 1, h => cases h; exact hcD
    | k + 2, h => simp at h⟩
  have hS : va_S (fun q : Nat => s.heap.size ≤ q) s.heap s.heap [] := va_S.rf
  have hP : va_P D cls2 [] s.heap := fun k q h => by simp at h
  have hD : va_D (fun q : Nat => s.heap.size ≤ q) [] := ⟨fun i j p q h => by simp at h, fun k q h => by simp at h⟩
  have hl := lv_entry ([.ref b]) (n := 10) (Nat.le_of_ble_eq_true rfl)
  rw [lg_entry_eq]
  generalize (lg_sl ([.ref b]) ++ List.replicate (10 - (lg_sl ([.ref b])).length) Slot.unset).toArray = ls at hl ⊢
  have hl : lv_has ls 10 [(0, .ref b)] := hl
  refine va_new (ci := 0) (fs := [.null, .null, .null, .null, .null, .null, .null, .null, .null, .int 0, .int 0]) (C := RX0) (T := TX0) (N := 11) hx hb hts inlX0 tyX0 tyX0_ok hown (hts0 (.classLink RL 8 RX0) (by decide +kernel)) (hts0 (.instantiable RX0 11) (by decide +kernel)) (hts0 (.initialized RX0) (by decide +kernel)) hK hP hD hS hA rfl (by decide +kernel) (Nat.le_of_ble_eq_true rfl) (Nat.le_of_ble_eq_true rfl) dL_law_0 (fun h0 H hP hD hS => ?_)
  have hP : va_P D cls2 [(h0, .inr (0, [.null, .null, .null, .null, .null, .null, .null, .null, .null, .int 0, .int 0]))] H := hP
  have hD : va_D (fun q : Nat => s.heap.size ≤ q) [(h0, .inr (0, [.null, .null, .null, .null, .null, .null, .null, .null, .null, .int 0, .int 0]))] := hD
  refine lv_dup hx hb dL_law_3 rfl ?_
  have hFc := va_free (wc := [(h0, .inr (0, [.null, .null, .null, .null, .null, .null, .null, .null, .null, .int 0, .int 0]))]) hD hS hA [0] rfl
  refine va_callv (va_runI (As := []) (rest := [.ref h0]) S (c_X0_init (D := D) (cI := cI) (cD := cD) (h0 := h0) (sz := H.size)) (cwI 0 hts gL_law_X0_init rfl rfl rfl (hts0 (.initialized RX0) (by decide +kernel)) (hts0 (.methodLink RL 65 yX0_init) (by decide +kernel)) (hts0 (.instanceMethod yX0_init) (by decide +kernel)) rfl (by decide +kernel) ⟨Nat.le_of_ble_eq_true rfl, Nat.le_of_ble_eq_true rfl⟩) ⟨fun a U g mk q => by obtain ⟨q0, q1, qP, qK⟩ := q; exact ⟨q0, q1, qP, va_K.moved (u := U) (U := U.calling g mk a) (Vm.Alike.refl U.vm) qK⟩, fun U hU hW => ⟨rfl, by rw [hU], by rw [hU]; exact hP, va_K.moved hW.alike hK⟩⟩ rfl rfl hl.1 rfl (lv_room (Nat.le_of_ble_eq_true rfl)) dL_law_4 ⟨Nat.le_of_ble_eq_true rfl, Nat.le_of_ble_eq_true rfl⟩) hS (fun q _ h => hFc q h) hFc (fun u0 t H1 locs1 ht hvm hw hB hz1 hk1 hS => ?_)
  obtain ⟨hq, hq0, hin0, hI, hO, hW, hE, T, hT, hT2⟩ := hw
  replace hB : va_P D cls2 (cW u0.1 cI cD (nI 4) (nI 0) u0.2.1 u0.2.2.1 u0.2.2.2.1 u0.2.2.2.2.1 u0.2.2.2.2.2 (fun _ => 0) (fun _ => 0) (fun _ => 0) (fun _ => 0)) t.heap := hB
  rw [ht] at hB
  obtain ⟨hP, hD⟩ := va_join (wr := []) (w1 := cW u0.1 cI cD (nI 4) (nI 0) u0.2.1 u0.2.2.1 u0.2.2.2.1 u0.2.2.2.2.1 u0.2.2.2.2.2 (fun _ => 0) (fun _ => 0) (fun _ => 0) (fun _ => 0)) hP hD [0] [] rfl rfl (by decide) (by decide) hk1 hFc hB (qf_D hq rfl hin0)
  have hP : va_P D cls2 (cW u0.1 cI cD (nI 4) (nI 0) u0.2.1 u0.2.2.1 u0.2.2.2.1 u0.2.2.2.2.1 u0.2.2.2.2.2 (fun _ => 0) (fun _ => 0) (fun _ => 0) (fun _ => 0)) H1 := hP
  have hD : va_D (fun q : Nat => s.heap.size ≤ q) (cW u0.1 cI cD (nI 4) (nI 0) u0.2.1 u0.2.2.1 u0.2.2.2.1 u0.2.2.2.2.1 u0.2.2.2.2.2 (fun _ => 0) (fun _ => 0) (fun _ => 0) (fun _ => 0)) := hD
  refine lv_astore_n (lv' := [(1, .ref h0), (0, .ref b)]) hx hb dL_law_7 rfl hl (by decide) rfl (fun ls hl => ?_)
  refine va_new (ci := 1) (fs := [.int 0, .int 0, .null, .null, .null, .null, .int 0, .null, .null, .null, .null, .null, .long 0]) (C := RX1) (T := TX1) (N := 13) hx hb hts inlX1 tyX1 tyX1_ok hown (hts0 (.classLink RL 66 RX1) (by decide +kernel)) (hts0 (.instantiable RX1 13) (by decide +kernel)) (hts0 (.initialized RX1) (by decide +kernel)) hK hP hD hS hA rfl (by decide +kernel) (Nat.le_of_ble_eq_true rfl) (Nat.le_of_ble_eq_true rfl) dL_law_8 (fun h1 H2 hP hD hS => ?_)
  refine lv_dup hx hb dL_law_11 rfl ?_
  have hFc := va_free (wc := [(h1, .inr (1, [.int 0, .int 0, .null, .null, .null, .null, .int 0, .null, .null, .null, .null, .null, .long 0]))]) hD hS hA [10] rfl
  refine va_callv (va_runI (As := []) (rest := [.ref h1]) S (c_X1_init (D := D) (cI := cI) (cD := cD) (h0 := h1) (sz := H2.size)) (cwI 0 hts gL_law_X1_init rfl rfl rfl (hts0 (.initialized RX1) (by decide +kernel)) (hts0 (.methodLink RL 68 yX1_init) (by decide +kernel)) (hts0 (.instanceMethod yX1_init) (by decide +kernel)) rfl (by decide +kernel) ⟨Nat.le_of_ble_eq_true rfl, Nat.le_of_ble_eq_true rfl⟩) ⟨fun a U g mk q => by obtain ⟨q0, q1, qP, qK⟩ := q; exact ⟨q0, q1, qP, va_K.moved (u := U) (U := U.calling g mk a) (Vm.Alike.refl U.vm) qK⟩, fun U hU hW => ⟨rfl, by rw [hU], by rw [hU]; exact va_P.sub hP [10] rfl, va_K.moved hW.alike hK⟩⟩ rfl rfl hl.1 rfl (lv_room (Nat.le_of_ble_eq_true rfl)) dL_law_12 ⟨Nat.le_of_ble_eq_true rfl, Nat.le_of_ble_eq_true rfl⟩) hS (fun q _ h => hFc q h) hFc (fun u1 t H3 locs3 ht hvm hw hB hz1 hk1 hS => ?_)
  obtain ⟨hq', hq0', hin1, hI', hO', hW', hE'⟩ := hw
  replace hB : va_P D cls2 (mW u1.1 cI cD (nI 0) (nI 4) (nI 0) 0 u1.2.1 u1.2.2.1 u1.2.2.2.1 u1.2.2.2.2 (fun _ => 0) (fun _ => 0) (fun _ => 0) (fun _ => 0) (fun _ => 0)) t.heap := hB
  rw [ht] at hB
  obtain ⟨hP, hD⟩ := va_join (wr := cW u0.1 cI cD (nI 4) (nI 0) u0.2.1 u0.2.2.1 u0.2.2.2.1 u0.2.2.2.2.1 u0.2.2.2.2.2 (fun _ => 0) (fun _ => 0) (fun _ => 0) (fun _ => 0)) (w1 := mW u1.1 cI cD (nI 0) (nI 4) (nI 0) 0 u1.2.1 u1.2.2.1 u1.2.2.2.1 u1.2.2.2.2 (fun _ => 0) (fun _ => 0) (fun _ => 0) (fun _ => 0) (fun _ => 0)) hP hD [10] [0, 1, 2, 3, 4, 5, 6, 7, 8, 9] rfl rfl (by decide) (by decide) hk1 hFc hB (qf_D hq' rfl hin1)
  refine lv_astore_n (lv' := [(2, .ref h1), (1, .ref h0), (0, .ref b)]) hx hb dL_law_15 rfl hl (by decide) rfl (fun ls hl => ?_)
  refine lv_iconst (v := nI 1) hx hb dL_law_16 (by decide) ?_
  refine va_newa (atype := .long) (ty := .long) (N' := 1) (a0 := (1, .inr (.inl (fun _ => 0)))) hx hb (hts0 (.arrayClass .long) (by decide +kernel)) rfl hK hP hD hS hA (fun _ => rfl) (by decide) (by decide) (by decide) (Nat.le_of_ble_eq_true rfl) (Nat.le_of_ble_eq_true rfl) dL_law_17 (fun o cJ H4 hK hP hD hS => ?_)
  refine lv_astore_n (lv' := [(3, .ref o), (2, .ref h1), (1, .ref h0), (0, .ref b)]) hx hb dL_law_19 rfl hl (by decide) rfl (fun ls hl => ?_)
  refine lv_iconst (v := nI 1) hx hb dL_law_20 (by decide) ?_
  refine va_newa (atype := .double) (ty := .double) (N' := 1) (a0 := (1, .inr (.inr (.inr (.inl (fun _ => 0)))))) hx hb (hts0 (.arrayClass .double) (by decide +kernel)) rfl hK hP hD hS hA (fun _ => rfl) (by decide) (by decide) (by decide) (Nat.le_of_ble_eq_true rfl) (Nat.le_of_ble_eq_true rfl) dL_law_21 (fun o2 cX H5 hK hP hD hS => ?_)
  have hcX : cX = cD := arr_sameD hK (t0 := 1) (t1 := 3) rfl rfl
  rw [hcX] at hP hK hD
  refine lv_astore (lv' := [(4, .ref o2), (3, .ref o), (2, .ref h1), (1, .ref h0), (0, .ref b)]) hx hb dL_law_23 hl (by decide) rfl (fun ls hl => ?_)
  refine lv_iconst (v := nI 0) hx hb dL_law_25 (by decide) ?_
  refine lv_istore (lv' := [(5, .int (nI 0)), (4, .ref o2), (3, .ref o), (2, .ref h1), (1, .ref h0), (0, .ref b)]) hx hb dL_law_26 hl (by decide) rfl (fun ls hl => ?_)
  refine W.widen (k := 30 + 0) (n := 800 + 6 * 0) (by decide) (by decide) ?_
  have hP : va_P D cls2 (((cW u0.1 cI cD (nI 4) (nI 0) u0.2.1 u0.2.2.1 u0.2.2.2.1 u0.2.2.2.2.1 u0.2.2.2.2.2 (fun _ => 0) (fun _ => 0) (fun _ => 0) (fun _ => 0) ++ mW u1.1 cI cD (nI 0) (nI 4) (nI 0) 0 u1.2.1 u1.2.2.1 u1.2.2.2.1 u1.2.2.2.2 (fun _ => 0) (fun _ => 0) (fun _ => 0) (fun _ => 0) (fun _ => 0)) ++ [(o, aJ cJ (fun _ => 0))]) ++ [(o2, aD cD 1 (fun _ => 0))]) H5 := hP
  have hD : va_D (fun q : Nat => s.heap.size ≤ q) (((cW u0.1 cI cD (nI 4) (nI 0) u0.2.1 u0.2.2.1 u0.2.2.2.1 u0.2.2.2.2.1 u0.2.2.2.2.2 (fun _ => 0) (fun _ => 0) (fun _ => 0) (fun _ => 0) ++ mW u1.1 cI cD (nI 0) (nI 4) (nI 0) 0 u1.2.1 u1.2.2.1 u1.2.2.2.1 u1.2.2.2.2 (fun _ => 0) (fun _ => 0) (fun _ => 0) (fun _ => 0) (fun _ => 0)) ++ [(o, aJ cJ (fun _ => 0))]) ++ [(o2, aD cD 1 (fun _ => 0))]) := hD
  have hPx : va_P D cls2 (cW u0.1 cI cD (nI 4) (nI 0) u0.2.1 u0.2.2.1 u0.2.2.2.1 u0.2.2.2.2.1 u0.2.2.2.2.2 (fun _ => 0) (fun _ => 0) (fun _ => 0) (fun _ => 0) ++ oW o o2 cJ cD (fun _ => 0) (fun _ => 0)) H5 := va_P.sub hP [0, 1, 2, 3, 4, 5, 6, 7, 8, 9, 20, 21] rfl
  have hPm : va_P D cls2 (mW u1.1 cI cD (nI 0) (nI 4) (nI 0) 0 u1.2.1 u1.2.2.1 u1.2.2.2.1 u1.2.2.2.2 (fun _ => 0) (fun _ => 0) (fun _ => 0) (fun _ => 0) (fun _ => 0)) H5 := va_P.sub hP [10, 11, 12, 13, 14, 15, 16, 17, 18, 19] rfl
  have hK3 : va_K D cls2 (tys3 cI cD cJ) s := hK.sub [0, 1, 2] rfl
  have at0 : ∀ k : Nat, k < 10 → ∃ x : Nat × va_E, (((cW u0.1 cI cD (nI 4) (nI 0) u0.2.1 u0.2.2.1 u0.2.2.2.1 u0.2.2.2.2.1 u0.2.2.2.2.2 (fun _ => 0) (fun _ => 0) (fun _ => 0) (fun _ => 0) ++ mW u1.1 cI cD (nI 0) (nI 4) (nI 0) 0 u1.2.1 u1.2.2.1 u1.2.2.2.1 u1.2.2.2.2 (fun _ => 0) (fun _ => 0) (fun _ => 0) (fun _ => 0) (fun _ => 0)) ++ [(o, aJ cJ (fun _ => 0))]) ++ [(o2, aD cD 1 (fun _ => 0))])[k]? = some x ∧ x.1 = u0.1 k := fun k hk => by
    rcases (show k = 0 ∨ k = 1 ∨ k = 2 ∨ k = 3 ∨ k = 4 ∨ k = 5 ∨ k = 6 ∨ k = 7 ∨ k = 8 ∨ k = 9 by omega) with rfl | rfl | rfl | rfl | rfl | rfl | rfl | rfl | rfl | rfl <;> exact ⟨_, rfl, rfl⟩
  have at1 : ∀ k : Nat, k < 10 → ∃ x : Nat × va_E, (((cW u0.1 cI cD (nI 4) (nI 0) u0.2.1 u0.2.2.1 u0.2.2.2.1 u0.2.2.2.2.1 u0.2.2.2.2.2 (fun _ => 0) (fun _ => 0) (fun _ => 0) (fun _ => 0) ++ mW u1.1 cI cD (nI 0) (nI 4) (nI 0) 0 u1.2.1 u1.2.2.1 u1.2.2.2.1 u1.2.2.2.2 (fun _ => 0) (fun _ => 0) (fun _ => 0) (fun _ => 0) (fun _ => 0)) ++ [(o, aJ cJ (fun _ => 0))]) ++ [(o2, aD cD 1 (fun _ => 0))])[10 + k]? = some x ∧ x.1 = u1.1 k := fun k hk => by
    rcases (show k = 0 ∨ k = 1 ∨ k = 2 ∨ k = 3 ∨ k = 4 ∨ k = 5 ∨ k = 6 ∨ k = 7 ∨ k = 8 ∨ k = 9 by omega) with rfl | rfl | rfl | rfl | rfl | rfl | rfl | rfl | rfl | rfl <;> exact ⟨_, rfl, rfl⟩
  have n1 : o ≠ o2 := fun h => absurd (hD.1 20 21 _ _ rfl rfl h) (by decide)
  have n2 : ∀ k : Nat, k < 10 → u0.1 k ≠ o := fun k hk h => by
    obtain ⟨x, h1, h2⟩ := at0 k hk
    have := hD.1 k 20 _ _ h1 rfl (h2.trans h); omega
  have n3 : ∀ k : Nat, k < 10 → u0.1 k ≠ o2 := fun k hk h => by
    obtain ⟨x, h1, h2⟩ := at0 k hk
    have := hD.1 k 21 _ _ h1 rfl (h2.trans h); omega
  have hdis : ∀ x, qA u1.1 x → ¬ A12 u0.1 o o2 x := by
    rintro x ⟨k, hk, rfl⟩ h
    obtain ⟨x, h1, h2⟩ := at1 k hk
    rcases h with ⟨j, hj, h⟩ | h | h
    · obtain ⟨y, h3, h4⟩ := at0 j hj
      have := hD.1 (10 + k) j _ _ h1 h3 (by rw [h2, h4, h]); omega
    · have := hD.1 (10 + k) 20 _ _ h1 rfl (h2.trans h); omega
    · have := hD.1 (10 + k) 21 _ _ h1 rfl (h2.trans h); omega
  have hA1 : ∀ x, A12 u0.1 o o2 x → s.heap.size ≤ x := by
    rintro x (⟨k, hk, rfl⟩ | rfl | rfl)
    · obtain ⟨y, h1, h2⟩ := at0 k hk
      rw [← h2]; exact hD.2 k y h1
    · exact hD.2 20 _ rfl
    · exact hD.2 21 _ rfl
  have hA2 : ∀ x, qA u1.1 x → s.heap.size ≤ x := by
    rintro x ⟨k, hk, rfl⟩
    obtain ⟨y, h1, h2⟩ := at1 k hk
    rw [← h2]; exact hD.2 (10 + k) y h1
  have C : LCx p l s m meth c b L xs D u0.1 u1.1 o o2 cI cD cJ sa := ⟨S, ⟨hr, hlocks⟩, hK3, ⟨⟨hq, n1, n2, n3⟩, hq', hdis⟩, ⟨hX, hbl, hL⟩, hA1, hA2, hG, notr hflags⟩
  have hl' : lv_has ls 10 (lvL u0.1 u1.1 b o o2 (5 * 0)) := by
    show lv_has ls 10 [(0, .ref b), (1, .ref (u0.1 0)), (2, .ref (u1.1 0)), (3, .ref o), (4, .ref o2), (5, .int (nI 0))]
    rw [hq0, hq0']; exact lv_sub hl [5, 4, 3, 2, 1, 0] rfl
  exact law_loop C 513 0 rfl (Nat.zero_le _) (n := 4) ⟨by decide, BD_0 _, BD_0 _, BW_0 _, GE_lay (BW_0 _)⟩ ⟨_, _, _, _, _, _, _, _, _, _, _, hPx, hI, hO, hW, hE, T, hT, hT2⟩ ⟨_, _, _, _, _, _, _, _, _, _, _, hPm, hI', hO', hW', hE'⟩ hS hl'
