/-! constructors -/
def qf (a0 a1 a2 a3 a4 a5 a6 a7 a8 a9 : Nat) : Nat → Nat := fun k => [a0, a1, a2, a3, a4, a5, a6, a7, a8, a9].getD k 0
theorem qD_of {A : Nat → Prop} {w : va_W} {q : Nat → Nat} (hD : va_D A w) (he : w.map (fun x => x.1) = (List.range 10).map q) : qD q := by
  intro i j hi hj hij
  have key : ∀ k : Nat, k < 10 → ∃ x : Nat × va_E, w[k]? = some x ∧ x.1 = q k := by
    intro k hk
    have h1 : (w.map (fun x => x.1))[k]? = some (q k) := by rw [he, List.getElem?_map, List.getElem?_range hk]; rfl
    rw [List.getElem?_map] at h1
    cases h2 : w[k]? with
    | none => rw [h2] at h1; cases h1
    | some x => rw [h2] at h1; exact ⟨x, rfl, Option.some.inj h1⟩
  obtain ⟨x, h1, h2⟩ := key i hi
  obtain ⟨y, h3, h4⟩ := key j hj
  exact hD.1 i j x y h1 h3 (by rw [h2, h4, hij])
theorem qA_of {A : Nat → Prop} {w : va_W} {q : Nat → Nat} (hD : va_D A w) (he : w.map (fun x => x.1) = (List.range 10).map q) : ∀ x, qA q x → A x := by
  rintro x ⟨k, hk, rfl⟩
  have h1 : (w.map (fun x => x.1))[k]? = some (q k) := by rw [he, List.getElem?_map, List.getElem?_range hk]; rfl
  rw [List.getElem?_map] at h1
  cases h2 : w[k]? with
  | none => rw [h2] at h1; cases h1
  | some x => rw [h2] at h1; rw [← Option.some.inj h1]; exact hD.2 k x h2
theorem arr_same {D : va_G} {cl : List vw_C} {tys : List (ClassId × FieldType)} {s : State} {cA cB : ClassId} {t0 t1 : Nat} (hK : va_K D cl tys s) (h0 : tys[t0]? = some (cA, .int)) (h1 : tys[t1]? = some (cB, .int)) : cB = cA := by
  have a := (hK.2 t0 _ h0).2
  have b := (hK.2 t1 _ h1).2
  exact Option.some.inj (b.symm.trans a)
theorem arr_sameD {D : va_G} {cl : List vw_C} {tys : List (ClassId × FieldType)} {s : State} {cA cB : ClassId} {t0 t1 : Nat} (hK : va_K D cl tys s) (h0 : tys[t0]? = some (cA, .double)) (h1 : tys[t1]? = some (cB, .double)) : cB = cA := by
  have a := (hK.2 t0 _ h0).2
  have b := (hK.2 t1 _ h1).2
  exact Option.some.inj (b.symm.trans a)
abbrev rX0_init : Room := { frames := 3, cells := 9, slots := 174, locals := 67 }
set_option maxHeartbeats 4000000 in
set_option maxRecDepth 100000 in
theorem c_X0_init {l : Launch} {D : va_G} {cI cD : ClassId} {h0 sz : Nat} : Met l yX0_init wsX0_init rX0_init (va_Pc [.ref h0] (fun U => U.heap.size = sz ∧ va_P D cls2 [(h0, .inr (0, [.null, .null, .null, .null, .null, .null, .null, .null, .null, .int 0, .int 0]))] U.heap ∧ va_K D cls2 (tys2 cI cD) U)) (va_Qv (fun (u : (Nat → Nat) × (Nat → Int32) × (Nat → Int32) × (Nat → Int32) × (Nat → UInt64) × (Nat → Int32)) => qD u.1 ∧ u.1 0 = h0 ∧ (∀ k : Nat, k < 10 → va_A [(h0, .inr (0, [.null, .null, .null, .null, .null, .null, .null, .null, .null, .int 0, .int 0]))] sz (u.1 k)) ∧ ag1 4 u.2.1 (fun _ => nI 0) ∧ ag1 4 u.2.2.1 (fun _ => nI 0) ∧ ag2 4 u.2.2.2.1 w0 ∧ ag2 4 u.2.2.2.2.1 (lay w0) ∧ ∃ T' : Nat → Nat, (∀ j : Nat, j < 6 → u.2.2.2.2.2 j = nI (T' j) ∧ T' j < 64) ∧ ∀ a b : Nat, a < 4 → b < 4 → (T' a).testBit b = decide (0 < w0 a b)) (fun u t => va_P D cls2 (cW u.1 cI cD (nI 4) (nI 0) u.2.1 u.2.2.1 u.2.2.2.1 u.2.2.2.2.1 u.2.2.2.2.2 (fun _ => 0) (fun _ => 0) (fun _ => 0) (fun _ => 0)) t.heap) (va_A [(h0, .inr (0, [.null, .null, .null, .null, .null, .null, .null, .null, .null, .int 0, .int 0]))] sz)) 9 174 (va_A [(h0, .inr (0, [.null, .null, .null, .null, .null, .null, .null, .null, .null, .int 0, .int 0]))] sz) := by
  refine Met.ofW (cc := cX0_init) (maxL := 1) (ret := none) (by decide) rfl ?_
  intro pp ee ss mm args below meth cd s₁ BB hml hv
  obtain ⟨rfl, hsz, hP, hK⟩ := hv
  have hx := BB.exec
  have hb := BB.bytes
  have hr := BB.returns
  have hts := atoms_spec (ws := wsX0_init) BB.pre
  have hown : ss.vm.findClass RX0 = some mm.cls := findClass_of_methodNamed BB.named
  have hlocks := BB.notSynchronized
  have hin2 : meth.name = "<init>" := (name_of_methodNamed BB.named BB.method).1
  subst hsz
  have hD : va_D (va_A [(h0, .inr (0, [.null, .null, .null, .null, .null, .null, .null, .null, .null, .int 0, .int 0]))] ss.heap.size) [(h0, .inr (0, [.null, .null, .null, .null, .null, .null, .null, .null, .null, .int 0, .int 0]))] := ⟨fun i j p q hi hj _ => by rcases i with _ | i <;> rcases j with _ | j <;> simp_all, fun k q hk => va_A.in hk⟩
  generalize hAe : va_A [(h0, .inr (0, [.null, .null, .null, .null, .null, .null, .null, .null, .null, .int 0, .int 0]))] ss.heap.size = A at hD ⊢
  have hA : ∀ q : Nat, ss.heap.size ≤ q → A q := fun q h => by rw [← hAe]; exact Or.inr h
  have hS : va_S A ss.heap ss.heap [] := va_S.rf
  have hl := lv_entry ([.ref h0]) (n := 1) (Nat.le_of_ble_eq_true rfl)
  rw [lg_entry_eq]
  generalize (lg_sl ([.ref h0]) ++ List.replicate (1 - (lg_sl ([.ref h0])).length) Slot.unset).toArray = ls at hl ⊢
  have hl : lv_has ls 1 [(0, .ref h0)] := hl
  show W pp l ee rX0_init ss mm _ below meth cd _ _ 0 0 _ _
  have in_w : ∀ w ∈ wsX00, w ∈ wsX0_init := by decide +kernel
  refine lv_aload_n hx hb dX0_init_0 rfl (lv_at hl 0 rfl) ?_
  refine W.objInit hx hb hown (hts (.methodLink RX0 1 objectInit) (by decide +kernel)) (hts (.instanceMethod objectInit) (by decide +kernel)) (hts _ (show Cond.code objectInit ⟨#[0xb1]⟩ 1 none ∈ wsX0_init from by decide +kernel)) rfl (by rw [hml]; exact hl.1) rfl dX0_init_1 (Nat.le_of_ble_eq_true rfl) (Nat.le_of_ble_eq_true rfl) ?_
  refine W.eq (g2 := F0 mm 4 ls []) rfl ?_
  refine lv_aload_n hx hb dX0_init_4 rfl (lv_at hl 0 rfl) ?_
  refine lv_bipush (v := nI 6) hx hb dX0_init_5 (by decide) ?_
  refine va_newa (atype := .int) (ty := .int) (N' := 6) (a0 := (6, .inl (fun _ => 0))) hx hb (hts (.arrayClass .int) (by decide +kernel)) rfl hK hP hD hS hA (fun _ => rfl) (by decide) (by decide) (by decide) (Nat.le_of_ble_eq_true rfl) (Nat.le_of_ble_eq_true rfl) dX0_init_7 (fun a1 cA H hK hP hD hS => ?_)
  obtain rfl : cI = cA := (arr_same hK (t0 := 0) (t1 := 2) rfl rfl).symm
  have hK : va_K D cls2 (tys2 cI cD) ss := hK.sub [0, 1] rfl
  have hP : va_P D cls2 [(h0, .inr (0, [.null, .null, .null, .null, .null, .null, .null, .null, .null, .int 0, .int 0])), (a1, aI cI 6 (fun _ => 0))] H := hP
  have hD : va_D A [(h0, .inr (0, [.null, .null, .null, .null, .null, .null, .null, .null, .null, .int 0, .int 0])), (a1, aI cI 6 (fun _ => 0))] := hD
  refine W.widen (k := 1) (n := 6) (Nat.le_of_ble_eq_true rfl) (Nat.le_of_ble_eq_true rfl) ?_
  refine va_putF (D := D) (ci := 0) (v := .ref a1) (ty := .array .int) (C := RX0) (T := TX0) (N := 11) hx hb hts in_w tyX0 tyX0_ok nmX0 hown hK hP hD hS 0 rfl rfl 0 (by decide) (hts (.fieldLink RX0 9 "TurnEstimator" "inflows" "[I") (by decide +kernel)) (fun _ h9 => h9) rfl hin2 rfl (by decide +kernel) rfl rfl (Nat.le_of_ble_eq_true rfl) dX0_init_9 (fun H locs hP hD hS => ?_)
  have hP : va_P D cls2 [(h0, .inr (0, [.ref a1, .null, .null, .null, .null, .null, .null, .null, .null, .int 0, .int 0])), (a1, aI cI 6 (fun _ => 0))] H := hP
  have hD : va_D A [(h0, .inr (0, [.ref a1, .null, .null, .null, .null, .null, .null, .null, .null, .int 0, .int 0])), (a1, aI cI 6 (fun _ => 0))] := hD
  refine lv_aload_n hx hb dX0_init_12 rfl (lv_at hl 0 rfl) ?_
  refine lv_bipush (v := nI 6) hx hb dX0_init_13 (by decide) ?_
  refine va_newa (atype := .int) (ty := .int) (N' := 6) (a0 := (6, .inl (fun _ => 0))) hx hb (hts (.arrayClass .int) (by decide +kernel)) rfl hK hP hD hS hA (fun _ => rfl) (by decide) (by decide) (by decide) (Nat.le_of_ble_eq_true rfl) (Nat.le_of_ble_eq_true rfl) dX0_init_15 (fun a2 cA H hK hP hD hS => ?_)
  obtain rfl : cI = cA := (arr_same hK (t0 := 0) (t1 := 2) rfl rfl).symm
  have hK : va_K D cls2 (tys2 cI cD) ss := hK.sub [0, 1] rfl
  have hP : va_P D cls2 [(h0, .inr (0, [.ref a1, .null, .null, .null, .null, .null, .null, .null, .null, .int 0, .int 0])), (a1, aI cI 6 (fun _ => 0)), (a2, aI cI 6 (fun _ => 0))] H := hP
  have hD : va_D A [(h0, .inr (0, [.ref a1, .null, .null, .null, .null, .null, .null, .null, .null, .int 0, .int 0])), (a1, aI cI 6 (fun _ => 0)), (a2, aI cI 6 (fun _ => 0))] := hD
  refine W.widen (k := 2) (n := 12) (Nat.le_of_ble_eq_true rfl) (Nat.le_of_ble_eq_true rfl) ?_
  refine va_putF (D := D) (ci := 0) (v := .ref a2) (ty := .array .int) (C := RX0) (T := TX0) (N := 11) hx hb hts in_w tyX0 tyX0_ok nmX0 hown hK hP hD hS 0 rfl rfl 1 (by decide) (hts (.fieldLink RX0 13 "TurnEstimator" "outflows" "[I") (by decide +kernel)) (fun _ h9 => h9) rfl hin2 rfl (by decide +kernel) rfl rfl (Nat.le_of_ble_eq_true rfl) dX0_init_17 (fun H locs hP hD hS => ?_)
  have hP : va_P D cls2 [(h0, .inr (0, [.ref a1, .ref a2, .null, .null, .null, .null, .null, .null, .null, .int 0, .int 0])), (a1, aI cI 6 (fun _ => 0)), (a2, aI cI 6 (fun _ => 0))] H := hP
  have hD : va_D A [(h0, .inr (0, [.ref a1, .ref a2, .null, .null, .null, .null, .null, .null, .null, .int 0, .int 0])), (a1, aI cI 6 (fun _ => 0)), (a2, aI cI 6 (fun _ => 0))] := hD
  refine lv_aload_n hx hb dX0_init_20 rfl (lv_at hl 0 rfl) ?_
  refine lv_bipush (v := nI 36) hx hb dX0_init_21 (by decide) ?_
  refine va_newa (atype := .int) (ty := .int) (N' := 36) (a0 := (36, .inl (fun _ => 0))) hx hb (hts (.arrayClass .int) (by decide +kernel)) rfl hK hP hD hS hA (fun _ => rfl) (by decide) (by decide) (by decide) (Nat.le_of_ble_eq_true rfl) (Nat.le_of_ble_eq_true rfl) dX0_init_23 (fun a3 cA H hK hP hD hS => ?_)
  obtain rfl : cI = cA := (arr_same hK (t0 := 0) (t1 := 2) rfl rfl).symm
  have hK : va_K D cls2 (tys2 cI cD) ss := hK.sub [0, 1] rfl
  have hP : va_P D cls2 [(h0, .inr (0, [.ref a1, .ref a2, .null, .null, .null, .null, .null, .null, .null, .int 0, .int 0])), (a1, aI cI 6 (fun _ => 0)), (a2, aI cI 6 (fun _ => 0)), (a3, aI cI 36 (fun _ => 0))] H := hP
  have hD : va_D A [(h0, .inr (0, [.ref a1, .ref a2, .null, .null, .null, .null, .null, .null, .null, .int 0, .int 0])), (a1, aI cI 6 (fun _ => 0)), (a2, aI cI 6 (fun _ => 0)), (a3, aI cI 36 (fun _ => 0))] := hD
  refine W.widen (k := 3) (n := 48) (Nat.le_of_ble_eq_true rfl) (Nat.le_of_ble_eq_true rfl) ?_
  refine va_putF (D := D) (ci := 0) (v := .ref a3) (ty := .array .int) (C := RX0) (T := TX0) (N := 11) hx hb hts in_w tyX0 tyX0_ok nmX0 hown hK hP hD hS 0 rfl rfl 2 (by decide) (hts (.fieldLink RX0 16 "TurnEstimator" "weights" "[I") (by decide +kernel)) (fun _ h9 => h9) rfl hin2 rfl (by decide +kernel) rfl rfl (Nat.le_of_ble_eq_true rfl) dX0_init_25 (fun H locs hP hD hS => ?_)
  have hP : va_P D cls2 [(h0, .inr (0, [.ref a1, .ref a2, .ref a3, .null, .null, .null, .null, .null, .null, .int 0, .int 0])), (a1, aI cI 6 (fun _ => 0)), (a2, aI cI 6 (fun _ => 0)), (a3, aI cI 36 (fun _ => 0))] H := hP
  have hD : va_D A [(h0, .inr (0, [.ref a1, .ref a2, .ref a3, .null, .null, .null, .null, .null, .null, .int 0, .int 0])), (a1, aI cI 6 (fun _ => 0)), (a2, aI cI 6 (fun _ => 0)), (a3, aI cI 36 (fun _ => 0))] := hD
  refine lv_aload_n hx hb dX0_init_28 rfl (lv_at hl 0 rfl) ?_
  refine lv_bipush (v := nI 36) hx hb dX0_init_29 (by decide) ?_
  refine va_newa (atype := .double) (ty := .double) (N' := 36) (a0 := (36, .inr (.inr (.inr (.inl (fun _ => 0)))))) hx hb (hts (.arrayClass .double) (by decide +kernel)) rfl hK hP hD hS hA (fun _ => rfl) (by decide) (by decide) (by decide) (Nat.le_of_ble_eq_true rfl) (Nat.le_of_ble_eq_true rfl) dX0_init_31 (fun a4 cA H hK hP hD hS => ?_)
  obtain rfl : cD = cA := (arr_sameD hK (t0 := 1) (t1 := 2) rfl rfl).symm
  have hK : va_K D cls2 (tys2 cI cD) ss := hK.sub [0, 1] rfl
  have hP : va_P D cls2 [(h0, .inr (0, [.ref a1, .ref a2, .ref a3, .null, .null, .null, .null, .null, .null, .int 0, .int 0])), (a1, aI cI 6 (fun _ => 0)), (a2, aI cI 6 (fun _ => 0)), (a3, aI cI 36 (fun _ => 0)), (a4, aD cD 36 (fun _ => 0))] H := hP
  have hD : va_D A [(h0, .inr (0, [.ref a1, .ref a2, .ref a3, .null, .null, .null, .null, .null, .null, .int 0, .int 0])), (a1, aI cI 6 (fun _ => 0)), (a2, aI cI 6 (fun _ => 0)), (a3, aI cI 36 (fun _ => 0)), (a4, aD cD 36 (fun _ => 0))] := hD
  refine W.widen (k := 4) (n := 84) (Nat.le_of_ble_eq_true rfl) (Nat.le_of_ble_eq_true rfl) ?_
  refine va_putF (D := D) (ci := 0) (v := .ref a4) (ty := .array .double) (C := RX0) (T := TX0) (N := 11) hx hb hts in_w tyX0 tyX0_ok nmX0 hown hK hP hD hS 0 rfl rfl 3 (by decide) (hts (.fieldLink RX0 19 "TurnEstimator" "estimates" "[D") (by decide +kernel)) (fun _ h9 => h9) rfl hin2 rfl (by decide +kernel) rfl rfl (Nat.le_of_ble_eq_true rfl) dX0_init_33 (fun H locs hP hD hS => ?_)
  have hP : va_P D cls2 [(h0, .inr (0, [.ref a1, .ref a2, .ref a3, .ref a4, .null, .null, .null, .null, .null, .int 0, .int 0])), (a1, aI cI 6 (fun _ => 0)), (a2, aI cI 6 (fun _ => 0)), (a3, aI cI 36 (fun _ => 0)), (a4, aD cD 36 (fun _ => 0))] H := hP
  have hD : va_D A [(h0, .inr (0, [.ref a1, .ref a2, .ref a3, .ref a4, .null, .null, .null, .null, .null, .int 0, .int 0])), (a1, aI cI 6 (fun _ => 0)), (a2, aI cI 6 (fun _ => 0)), (a3, aI cI 36 (fun _ => 0)), (a4, aD cD 36 (fun _ => 0))] := hD
  refine lv_aload_n hx hb dX0_init_36 rfl (lv_at hl 0 rfl) ?_
  refine lv_bipush (v := nI 6) hx hb dX0_init_37 (by decide) ?_
  refine va_newa (atype := .int) (ty := .int) (N' := 6) (a0 := (6, .inl (fun _ => 0))) hx hb (hts (.arrayClass .int) (by decide +kernel)) rfl hK hP hD hS hA (fun _ => rfl) (by decide) (by decide) (by decide) (Nat.le_of_ble_eq_true rfl) (Nat.le_of_ble_eq_true rfl) dX0_init_39 (fun a5 cA H hK hP hD hS => ?_)
  obtain rfl : cI = cA := (arr_same hK (t0 := 0) (t1 := 2) rfl rfl).symm
  have hK : va_K D cls2 (tys2 cI cD) ss := hK.sub [0, 1] rfl
  have hP : va_P D cls2 [(h0, .inr (0, [.ref a1, .ref a2, .ref a3, .ref a4, .null, .null, .null, .null, .null, .int 0, .int 0])), (a1, aI cI 6 (fun _ => 0)), (a2, aI cI 6 (fun _ => 0)), (a3, aI cI 36 (fun _ => 0)), (a4, aD cD 36 (fun _ => 0)), (a5, aI cI 6 (fun _ => 0))] H := hP
  have hD : va_D A [(h0, .inr (0, [.ref a1, .ref a2, .ref a3, .ref a4, .null, .null, .null, .null, .null, .int 0, .int 0])), (a1, aI cI 6 (fun _ => 0)), (a2, aI cI 6 (fun _ => 0)), (a3, aI cI 36 (fun _ => 0)), (a4, aD cD 36 (fun _ => 0)), (a5, aI cI 6 (fun _ => 0))] := hD
  refine W.widen (k := 5) (n := 90) (Nat.le_of_ble_eq_true rfl) (Nat.le_of_ble_eq_true rfl) ?_
  refine va_putF (D := D) (ci := 0) (v := .ref a5) (ty := .array .int) (C := RX0) (T := TX0) (N := 11) hx hb hts in_w tyX0 tyX0_ok nmX0 hown hK hP hD hS 0 rfl rfl 4 (by decide) (hts (.fieldLink RX0 23 "TurnEstimator" "targets" "[I") (by decide +kernel)) (fun _ h9 => h9) rfl hin2 rfl (by decide +kernel) rfl rfl (Nat.le_of_ble_eq_true rfl) dX0_init_41 (fun H locs hP hD hS => ?_)
  have hP : va_P D cls2 [(h0, .inr (0, [.ref a1, .ref a2, .ref a3, .ref a4, .ref a5, .null, .null, .null, .null, .int 0, .int 0])), (a1, aI cI 6 (fun _ => 0)), (a2, aI cI 6 (fun _ => 0)), (a3, aI cI 36 (fun _ => 0)), (a4, aD cD 36 (fun _ => 0)), (a5, aI cI 6 (fun _ => 0))] H := hP
  have hD : va_D A [(h0, .inr (0, [.ref a1, .ref a2, .ref a3, .ref a4, .ref a5, .null, .null, .null, .null, .int 0, .int 0])), (a1, aI cI 6 (fun _ => 0)), (a2, aI cI 6 (fun _ => 0)), (a3, aI cI 36 (fun _ => 0)), (a4, aD cD 36 (fun _ => 0)), (a5, aI cI 6 (fun _ => 0))] := hD
  refine lv_aload_n hx hb dX0_init_44 rfl (lv_at hl 0 rfl) ?_
  refine lv_bipush (v := nI 36) hx hb dX0_init_45 (by decide) ?_
  refine va_newa (atype := .int) (ty := .int) (N' := 36) (a0 := (36, .inl (fun _ => 0))) hx hb (hts (.arrayClass .int) (by decide +kernel)) rfl hK hP hD hS hA (fun _ => rfl) (by decide) (by decide) (by decide) (Nat.le_of_ble_eq_true rfl) (Nat.le_of_ble_eq_true rfl) dX0_init_47 (fun a6 cA H hK hP hD hS => ?_)
  obtain rfl : cI = cA := (arr_same hK (t0 := 0) (t1 := 2) rfl rfl).symm
  have hK : va_K D cls2 (tys2 cI cD) ss := hK.sub [0, 1] rfl
  have hP : va_P D cls2 [(h0, .inr (0, [.ref a1, .ref a2, .ref a3, .ref a4, .ref a5, .null, .null, .null, .null, .int 0, .int 0])), (a1, aI cI 6 (fun _ => 0)), (a2, aI cI 6 (fun _ => 0)), (a3, aI cI 36 (fun _ => 0)), (a4, aD cD 36 (fun _ => 0)), (a5, aI cI 6 (fun _ => 0)), (a6, aI cI 36 (fun _ => 0))] H := hP
  have hD : va_D A [(h0, .inr (0, [.ref a1, .ref a2, .ref a3, .ref a4, .ref a5, .null, .null, .null, .null, .int 0, .int 0])), (a1, aI cI 6 (fun _ => 0)), (a2, aI cI 6 (fun _ => 0)), (a3, aI cI 36 (fun _ => 0)), (a4, aD cD 36 (fun _ => 0)), (a5, aI cI 6 (fun _ => 0)), (a6, aI cI 36 (fun _ => 0))] := hD
  refine W.widen (k := 6) (n := 126) (Nat.le_of_ble_eq_true rfl) (Nat.le_of_ble_eq_true rfl) ?_
  refine va_putF (D := D) (ci := 0) (v := .ref a6) (ty := .array .int) (C := RX0) (T := TX0) (N := 11) hx hb hts in_w tyX0 tyX0_ok nmX0 hown hK hP hD hS 0 rfl rfl 5 (by decide) (hts (.fieldLink RX0 26 "TurnEstimator" "roundedTable" "[I") (by decide +kernel)) (fun _ h9 => h9) rfl hin2 rfl (by decide +kernel) rfl rfl (Nat.le_of_ble_eq_true rfl) dX0_init_49 (fun H locs hP hD hS => ?_)
  have hP : va_P D cls2 [(h0, .inr (0, [.ref a1, .ref a2, .ref a3, .ref a4, .ref a5, .ref a6, .null, .null, .null, .int 0, .int 0])), (a1, aI cI 6 (fun _ => 0)), (a2, aI cI 6 (fun _ => 0)), (a3, aI cI 36 (fun _ => 0)), (a4, aD cD 36 (fun _ => 0)), (a5, aI cI 6 (fun _ => 0)), (a6, aI cI 36 (fun _ => 0))] H := hP
  have hD : va_D A [(h0, .inr (0, [.ref a1, .ref a2, .ref a3, .ref a4, .ref a5, .ref a6, .null, .null, .null, .int 0, .int 0])), (a1, aI cI 6 (fun _ => 0)), (a2, aI cI 6 (fun _ => 0)), (a3, aI cI 36 (fun _ => 0)), (a4, aD cD 36 (fun _ => 0)), (a5, aI cI 6 (fun _ => 0)), (a6, aI cI 36 (fun _ => 0))] := hD
  refine lv_aload_n hx hb dX0_init_52 rfl (lv_at hl 0 rfl) ?_
  refine lv_bipush (v := nI 36) hx hb dX0_init_53 (by decide) ?_
  refine va_newa (atype := .int) (ty := .int) (N' := 36) (a0 := (36, .inl (fun _ => 0))) hx hb (hts (.arrayClass .int) (by decide +kernel)) rfl hK hP hD hS hA (fun _ => rfl) (by decide) (by decide) (by decide) (Nat.le_of_ble_eq_true rfl) (Nat.le_of_ble_eq_true rfl) dX0_init_55 (fun a7 cA H hK hP hD hS => ?_)
  obtain rfl : cI = cA := (arr_same hK (t0 := 0) (t1 := 2) rfl rfl).symm
  have hK : va_K D cls2 (tys2 cI cD) ss := hK.sub [0, 1] rfl
  have hP : va_P D cls2 [(h0, .inr (0, [.ref a1, .ref a2, .ref a3, .ref a4, .ref a5, .ref a6, .null, .null, .null, .int 0, .int 0])), (a1, aI cI 6 (fun _ => 0)), (a2, aI cI 6 (fun _ => 0)), (a3, aI cI 36 (fun _ => 0)), (a4, aD cD 36 (fun _ => 0)), (a5, aI cI 6 (fun _ => 0)), (a6, aI cI 36 (fun _ => 0)), (a7, aI cI 36 (fun _ => 0))] H := hP
  have hD : va_D A [(h0, .inr (0, [.ref a1, .ref a2, .ref a3, .ref a4, .ref a5, .ref a6, .null, .null, .null, .int 0, .int 0])), (a1, aI cI 6 (fun _ => 0)), (a2, aI cI 6 (fun _ => 0)), (a3, aI cI 36 (fun _ => 0)), (a4, aD cD 36 (fun _ => 0)), (a5, aI cI 6 (fun _ => 0)), (a6, aI cI 36 (fun _ => 0)), (a7, aI cI 36 (fun _ => 0))] := hD
  refine W.widen (k := 7) (n := 162) (Nat.le_of_ble_eq_true rfl) (Nat.le_of_ble_eq_true rfl) ?_
  refine va_putF (D := D) (ci := 0) (v := .ref a7) (ty := .array .int) (C := RX0) (T := TX0) (N := 11) hx hb hts in_w tyX0 tyX0_ok nmX0 hown hK hP hD hS 0 rfl rfl 6 (by decide) (hts (.fieldLink RX0 29 "TurnEstimator" "possibleTable" "[I") (by decide +kernel)) (fun _ h9 => h9) rfl hin2 rfl (by decide +kernel) rfl rfl (Nat.le_of_ble_eq_true rfl) dX0_init_57 (fun H locs hP hD hS => ?_)
  have hP : va_P D cls2 [(h0, .inr (0, [.ref a1, .ref a2, .ref a3, .ref a4, .ref a5, .ref a6, .ref a7, .null, .null, .int 0, .int 0])), (a1, aI cI 6 (fun _ => 0)), (a2, aI cI 6 (fun _ => 0)), (a3, aI cI 36 (fun _ => 0)), (a4, aD cD 36 (fun _ => 0)), (a5, aI cI 6 (fun _ => 0)), (a6, aI cI 36 (fun _ => 0)), (a7, aI cI 36 (fun _ => 0))] H := hP
  have hD : va_D A [(h0, .inr (0, [.ref a1, .ref a2, .ref a3, .ref a4, .ref a5, .ref a6, .ref a7, .null, .null, .int 0, .int 0])), (a1, aI cI 6 (fun _ => 0)), (a2, aI cI 6 (fun _ => 0)), (a3, aI cI 36 (fun _ => 0)), (a4, aD cD 36 (fun _ => 0)), (a5, aI cI 6 (fun _ => 0)), (a6, aI cI 36 (fun _ => 0)), (a7, aI cI 36 (fun _ => 0))] := hD
  refine lv_aload_n hx hb dX0_init_60 rfl (lv_at hl 0 rfl) ?_
  refine lv_bipush (v := nI 6) hx hb dX0_init_61 (by decide) ?_
  refine va_newa (atype := .int) (ty := .int) (N' := 6) (a0 := (6, .inl (fun _ => 0))) hx hb (hts (.arrayClass .int) (by decide +kernel)) rfl hK hP hD hS hA (fun _ => rfl) (by decide) (by decide) (by decide) (Nat.le_of_ble_eq_true rfl) (Nat.le_of_ble_eq_true rfl) dX0_init_63 (fun a8 cA H hK hP hD hS => ?_)
  obtain rfl : cI = cA := (arr_same hK (t0 := 0) (t1 := 2) rfl rfl).symm
  have hK : va_K D cls2 (tys2 cI cD) ss := hK.sub [0, 1] rfl
  have hP : va_P D cls2 [(h0, .inr (0, [.ref a1, .ref a2, .ref a3, .ref a4, .ref a5, .ref a6, .ref a7, .null, .null, .int 0, .int 0])), (a1, aI cI 6 (fun _ => 0)), (a2, aI cI 6 (fun _ => 0)), (a3, aI cI 36 (fun _ => 0)), (a4, aD cD 36 (fun _ => 0)), (a5, aI cI 6 (fun _ => 0)), (a6, aI cI 36 (fun _ => 0)), (a7, aI cI 36 (fun _ => 0)), (a8, aI cI 6 (fun _ => 0))] H := hP
  have hD : va_D A [(h0, .inr (0, [.ref a1, .ref a2, .ref a3, .ref a4, .ref a5, .ref a6, .ref a7, .null, .null, .int 0, .int 0])), (a1, aI cI 6 (fun _ => 0)), (a2, aI cI 6 (fun _ => 0)), (a3, aI cI 36 (fun _ => 0)), (a4, aD cD 36 (fun _ => 0)), (a5, aI cI 6 (fun _ => 0)), (a6, aI cI 36 (fun _ => 0)), (a7, aI cI 36 (fun _ => 0)), (a8, aI cI 6 (fun _ => 0))] := hD
  refine W.widen (k := 8) (n := 168) (Nat.le_of_ble_eq_true rfl) (Nat.le_of_ble_eq_true rfl) ?_
  refine va_putF (D := D) (ci := 0) (v := .ref a8) (ty := .array .int) (C := RX0) (T := TX0) (N := 11) hx hb hts in_w tyX0 tyX0_ok nmX0 hown hK hP hD hS 0 rfl rfl 7 (by decide) (hts (.fieldLink RX0 32 "TurnEstimator" "outflowsLeft" "[I") (by decide +kernel)) (fun _ h9 => h9) rfl hin2 rfl (by decide +kernel) rfl rfl (Nat.le_of_ble_eq_true rfl) dX0_init_65 (fun H locs hP hD hS => ?_)
  have hP : va_P D cls2 [(h0, .inr (0, [.ref a1, .ref a2, .ref a3, .ref a4, .ref a5, .ref a6, .ref a7, .ref a8, .null, .int 0, .int 0])), (a1, aI cI 6 (fun _ => 0)), (a2, aI cI 6 (fun _ => 0)), (a3, aI cI 36 (fun _ => 0)), (a4, aD cD 36 (fun _ => 0)), (a5, aI cI 6 (fun _ => 0)), (a6, aI cI 36 (fun _ => 0)), (a7, aI cI 36 (fun _ => 0)), (a8, aI cI 6 (fun _ => 0))] H := hP
  have hD : va_D A [(h0, .inr (0, [.ref a1, .ref a2, .ref a3, .ref a4, .ref a5, .ref a6, .ref a7, .ref a8, .null, .int 0, .int 0])), (a1, aI cI 6 (fun _ => 0)), (a2, aI cI 6 (fun _ => 0)), (a3, aI cI 36 (fun _ => 0)), (a4, aD cD 36 (fun _ => 0)), (a5, aI cI 6 (fun _ => 0)), (a6, aI cI 36 (fun _ => 0)), (a7, aI cI 36 (fun _ => 0)), (a8, aI cI 6 (fun _ => 0))] := hD
  refine lv_aload_n hx hb dX0_init_68 rfl (lv_at hl 0 rfl) ?_
  refine lv_bipush (v := nI 6) hx hb dX0_init_69 (by decide) ?_
  refine va_newa (atype := .double) (ty := .double) (N' := 6) (a0 := (6, .inr (.inr (.inr (.inl (fun _ => 0)))))) hx hb (hts (.arrayClass .double) (by decide +kernel)) rfl hK hP hD hS hA (fun _ => rfl) (by decide) (by decide) (by decide) (Nat.le_of_ble_eq_true rfl) (Nat.le_of_ble_eq_true rfl) dX0_init_71 (fun a9 cA H hK hP hD hS => ?_)
  obtain rfl : cD = cA := (arr_sameD hK (t0 := 1) (t1 := 2) rfl rfl).symm
  have hK : va_K D cls2 (tys2 cI cD) ss := hK.sub [0, 1] rfl
  have hP : va_P D cls2 [(h0, .inr (0, [.ref a1, .ref a2, .ref a3, .ref a4, .ref a5, .ref a6, .ref a7, .ref a8, .null, .int 0, .int 0])), (a1, aI cI 6 (fun _ => 0)), (a2, aI cI 6 (fun _ => 0)), (a3, aI cI 36 (fun _ => 0)), (a4, aD cD 36 (fun _ => 0)), (a5, aI cI 6 (fun _ => 0)), (a6, aI cI 36 (fun _ => 0)), (a7, aI cI 36 (fun _ => 0)), (a8, aI cI 6 (fun _ => 0)), (a9, aD cD 6 (fun _ => 0))] H := hP
  have hD : va_D A [(h0, .inr (0, [.ref a1, .ref a2, .ref a3, .ref a4, .ref a5, .ref a6, .ref a7, .ref a8, .null, .int 0, .int 0])), (a1, aI cI 6 (fun _ => 0)), (a2, aI cI 6 (fun _ => 0)), (a3, aI cI 36 (fun _ => 0)), (a4, aD cD 36 (fun _ => 0)), (a5, aI cI 6 (fun _ => 0)), (a6, aI cI 36 (fun _ => 0)), (a7, aI cI 36 (fun _ => 0)), (a8, aI cI 6 (fun _ => 0)), (a9, aD cD 6 (fun _ => 0))] := hD
  refine W.widen (k := 9) (n := 174) (Nat.le_of_ble_eq_true rfl) (Nat.le_of_ble_eq_true rfl) ?_
  refine va_putF (D := D) (ci := 0) (v := .ref a9) (ty := .array .double) (C := RX0) (T := TX0) (N := 11) hx hb hts in_w tyX0 tyX0_ok nmX0 hown hK hP hD hS 0 rfl rfl 8 (by decide) (hts (.fieldLink RX0 35 "TurnEstimator" "fractions" "[D") (by decide +kernel)) (fun _ h9 => h9) rfl hin2 rfl (by decide +kernel) rfl rfl (Nat.le_of_ble_eq_true rfl) dX0_init_73 (fun H locs hP hD hS => ?_)
  have hP : va_P D cls2 [(h0, .inr (0, [.ref a1, .ref a2, .ref a3, .ref a4, .ref a5, .ref a6, .ref a7, .ref a8, .ref a9, .int 0, .int 0])), (a1, aI cI 6 (fun _ => 0)), (a2, aI cI 6 (fun _ => 0)), (a3, aI cI 36 (fun _ => 0)), (a4, aD cD 36 (fun _ => 0)), (a5, aI cI 6 (fun _ => 0)), (a6, aI cI 36 (fun _ => 0)), (a7, aI cI 36 (fun _ => 0)), (a8, aI cI 6 (fun _ => 0)), (a9, aD cD 6 (fun _ => 0))] H := hP
  have hD : va_D A [(h0, .inr (0, [.ref a1, .ref a2, .ref a3, .ref a4, .ref a5, .ref a6, .ref a7, .ref a8, .ref a9, .int 0, .int 0])), (a1, aI cI 6 (fun _ => 0)), (a2, aI cI 6 (fun _ => 0)), (a3, aI cI 36 (fun _ => 0)), (a4, aD cD 36 (fun _ => 0)), (a5, aI cI 6 (fun _ => 0)), (a6, aI cI 36 (fun _ => 0)), (a7, aI cI 36 (fun _ => 0)), (a8, aI cI 6 (fun _ => 0)), (a9, aD cD 6 (fun _ => 0))] := hD
  have hq : qD (qf h0 a1 a2 a3 a4 a5 a6 a7 a8 a9) := qD_of hD rfl
  have hQA : ∀ x, qA (qf h0 a1 a2 a3 a4 a5 a6 a7 a8 a9) x → A x := qA_of hD rfl
  have hP : va_P D cls2 (cW (qf h0 a1 a2 a3 a4 a5 a6 a7 a8 a9) cI cD (nI 0) (nI 0) (fun _ => 0) (fun _ => 0) (fun _ => 0) (fun _ => 0) (fun _ => 0) (fun _ => 0) (fun _ => 0) (fun _ => 0) (fun _ => 0)) H := hP
  refine lv_aload_n hx hb dX0_init_76 rfl (lv_at hl 0 rfl) ?_
  refine lv_iconst (v := nI 4) hx hb dX0_init_77 (by decide) ?_
  refine va_callv (va_runV (As := [.int (nI 4)]) (rest := []) ⟨hx, hb, hml, hown, hts⟩ (c_X0_beginJunction (l := l) (n := 4) (n0 := 0) (q := (qf h0 a1 a2 a3 a4 a5 a6 a7 a8 a9)) (by decide) (T := fun _ => 0) (fun _ _ => ⟨by decide +kernel, by decide⟩) hq) (cwV 1 hts gX0_init_X0_beginJunction rfl rfl rfl hdX0_beginJunction ⟨Nat.le_of_ble_eq_true rfl, Nat.le_of_ble_eq_true rfl⟩) (preV hK hP rfl rfl) rfl rfl hl.1 rfl (lv_room (Nat.le_of_ble_eq_true rfl)) dX0_init_78 ⟨Nat.le_of_ble_eq_true rfl, Nat.le_of_ble_eq_true rfl⟩) hS (fun x _ h => hQA x h) (fun x h => hQA x h) (fun u t H locs ht hvm hw hB hz1 hk1 hS => ?_)
  replace hB : va_P D cls2 _ t.heap := hB
  rw [ht] at hB
  refine W.widen (k := 9) (n := 174) (Nat.le_of_ble_eq_true rfl) (Nat.le_of_ble_eq_true rfl) ?_
  exact W.vret hx hb hr (fun t ht hWm => ⟨⟨((qf h0 a1 a2 a3 a4 a5 a6 a7 a8 a9), u), rfl, ⟨hq, rfl, fun k hk => hQA _ ⟨k, hk, rfl⟩, hw⟩, (show va_P D cls2 _ t.heap from by rw [ht]; exact hB)⟩, hS.F ht⟩) hS.2.2 dX0_init_81
abbrev rX1_init : Room := { frames := 2, cells := 9, slots := 174, locals := 42 }
set_option maxHeartbeats 4000000 in
set_option maxRecDepth 100000 in
theorem c_X1_init {l : Launch} {D : va_G} {cI cD : ClassId} {h0 sz : Nat} : Met l yX1_init wsX1_init rX1_init (va_Pc [.ref h0] (fun U => U.heap.size = sz ∧ va_P D cls2 [(h0, .inr (1, [.int 0, .int 0, .null, .null, .null, .null, .int 0, .null, .null, .null, .null, .null, .long 0]))] U.heap ∧ va_K D cls2 (tys2 cI cD) U)) (va_Qv (fun (u : (Nat → Nat) × (Nat → Int32) × (Nat → Int32) × (Nat → Int32) × (Nat → UInt64)) => qD u.1 ∧ u.1 0 = h0 ∧ (∀ k : Nat, k < 10 → va_A [(h0, .inr (1, [.int 0, .int 0, .null, .null, .null, .null, .int 0, .null, .null, .null, .null, .null, .long 0]))] sz (u.1 k)) ∧ ag1 4 u.2.1 (fun _ => nI 0) ∧ ag1 4 u.2.2.1 (fun _ => nI 0) ∧ ag2 4 u.2.2.2.1 w0 ∧ ag2 4 u.2.2.2.2 (lay w0)) (fun u t => va_P D cls2 (mW u.1 cI cD (nI 0) (nI 4) (nI 0) 0 u.2.1 u.2.2.1 u.2.2.2.1 u.2.2.2.2 (fun _ => 0) (fun _ => 0) (fun _ => 0) (fun _ => 0) (fun _ => 0)) t.heap) (va_A [(h0, .inr (1, [.int 0, .int 0, .null, .null, .null, .null, .int 0, .null, .null, .null, .null, .null, .long 0]))] sz)) 9 174 (va_A [(h0, .inr (1, [.int 0, .int 0, .null, .null, .null, .null, .int 0, .null, .null, .null, .null, .null, .long 0]))] sz) := by
  refine Met.ofW (cc := cX1_init) (maxL := 1) (ret := none) (by decide) rfl ?_
  intro pp ee ss mm args below meth cd s₁ BB hml hv
  obtain ⟨rfl, hsz, hP, hK⟩ := hv
  have hx := BB.exec
  have hb := BB.bytes
  have hr := BB.returns
  have hts := atoms_spec (ws := wsX1_init) BB.pre
  have hown : ss.vm.findClass RX1 = some mm.cls := findClass_of_methodNamed BB.named
  have hlocks := BB.notSynchronized
  have hin2 : meth.name = "<init>" := (name_of_methodNamed BB.named BB.method).1
  subst hsz
  have hD : va_D (va_A [(h0, .inr (1, [.int 0, .int 0, .null, .null, .null, .null, .int 0, .null, .null, .null, .null, .null, .long 0]))] ss.heap.size) [(h0, .inr (1, [.int 0, .int 0, .null, .null, .null, .null, .int 0, .null, .null, .null, .null, .null, .long 0]))] := ⟨fun i j p q hi hj _ => by rcases i with _ | i <;> rcases j with _ | j <;> simp_all, fun k q hk => va_A.in hk⟩
  generalize hAe : va_A [(h0, .inr (1, [.int 0, .int 0, .null, .null, .null, .null, .int 0, .null, .null, .null, .null, .null, .long 0]))] ss.heap.size = A at hD ⊢
  have hA : ∀ q : Nat, ss.heap.size ≤ q → A q := fun q h => by rw [← hAe]; exact Or.inr h
  have hS : va_S A ss.heap ss.heap [] := va_S.rf
  have hl := lv_entry ([.ref h0]) (n := 1) (Nat.le_of_ble_eq_true rfl)
  rw [lg_entry_eq]
  generalize (lg_sl ([.ref h0]) ++ List.replicate (1 - (lg_sl ([.ref h0])).length) Slot.unset).toArray = ls at hl ⊢
  have hl : lv_has ls 1 [(0, .ref h0)] := hl
  show W pp l ee rX1_init ss mm _ below meth cd _ _ 0 0 _ _
  have in_w : ∀ w ∈ wsX10, w ∈ wsX1_init := by decide +kernel
  refine lv_aload_n hx hb dX1_init_0 rfl (lv_at hl 0 rfl) ?_
  refine W.objInit hx hb hown (hts (.methodLink RX1 1 objectInit) (by decide +kernel)) (hts (.instanceMethod objectInit) (by decide +kernel)) (hts _ (show Cond.code objectInit ⟨#[0xb1]⟩ 1 none ∈ wsX1_init from by decide +kernel)) rfl (by rw [hml]; exact hl.1) rfl dX1_init_1 (Nat.le_of_ble_eq_true rfl) (Nat.le_of_ble_eq_true rfl) ?_
  refine W.eq (g2 := F0 mm 4 ls []) rfl ?_
  refine lv_aload_n hx hb dX1_init_4 rfl (lv_at hl 0 rfl) ?_
  refine lv_iconst (v := nI 4) hx hb dX1_init_5 (by decide) ?_
  refine va_put (D := D) (ci := 1) (v := .int (nI 4)) (ty := .int) (C := RX1) (T := TX1) (N := 13) hx hb hts in_w tyX1 tyX1_ok nmX1 hown hK hP hD hS 0 rfl rfl 1 (by decide) (hts (.fieldLink RX1 7 "TurnEstimatorModel" "arms" "I") (by decide +kernel)) (fun _ h9 => h9) rfl (by decide +kernel) rfl rfl (Nat.le_of_ble_eq_true rfl) dX1_init_6 (fun H locs hP hD hS => ?_)
  have hP : va_P D cls2 [(h0, .inr (1, [.int 0, .int (nI 4), .null, .null, .null, .null, .int 0, .null, .null, .null, .null, .null, .long 0]))] H := hP
  have hD : va_D A [(h0, .inr (1, [.int 0, .int (nI 4), .null, .null, .null, .null, .int 0, .null, .null, .null, .null, .null, .long 0]))] := hD
  refine lv_aload_n hx hb dX1_init_9 rfl (lv_at hl 0 rfl) ?_
  refine lv_bipush (v := nI 6) hx hb dX1_init_10 (by decide) ?_
  refine va_newa (atype := .int) (ty := .int) (N' := 6) (a0 := (6, .inl (fun _ => 0))) hx hb (hts (.arrayClass .int) (by decide +kernel)) rfl hK hP hD hS hA (fun _ => rfl) (by decide) (by decide) (by decide) (Nat.le_of_ble_eq_true rfl) (Nat.le_of_ble_eq_true rfl) dX1_init_12 (fun a1 cA H hK hP hD hS => ?_)
  obtain rfl : cI = cA := (arr_same hK (t0 := 0) (t1 := 2) rfl rfl).symm
  have hK : va_K D cls2 (tys2 cI cD) ss := hK.sub [0, 1] rfl
  have hP : va_P D cls2 [(h0, .inr (1, [.int 0, .int (nI 4), .null, .null, .null, .null, .int 0, .null, .null, .null, .null, .null, .long 0])), (a1, aI cI 6 (fun _ => 0))] H := hP
  have hD : va_D A [(h0, .inr (1, [.int 0, .int (nI 4), .null, .null, .null, .null, .int 0, .null, .null, .null, .null, .null, .long 0])), (a1, aI cI 6 (fun _ => 0))] := hD
  refine W.widen (k := 1) (n := 6) (Nat.le_of_ble_eq_true rfl) (Nat.le_of_ble_eq_true rfl) ?_
  refine va_putF (D := D) (ci := 1) (v := .ref a1) (ty := .array .int) (C := RX1) (T := TX1) (N := 13) hx hb hts in_w tyX1 tyX1_ok nmX1 hown hK hP hD hS 0 rfl rfl 2 (by decide) (hts (.fieldLink RX1 13 "TurnEstimatorModel" "inflow" "[I") (by decide +kernel)) (fun _ h9 => h9) rfl hin2 rfl (by decide +kernel) rfl rfl (Nat.le_of_ble_eq_true rfl) dX1_init_14 (fun H locs hP hD hS => ?_)
  have hP : va_P D cls2 [(h0, .inr (1, [.int 0, .int (nI 4), .ref a1, .null, .null, .null, .int 0, .null, .null, .null, .null, .null, .long 0])), (a1, aI cI 6 (fun _ => 0))] H := hP
  have hD : va_D A [(h0, .inr (1, [.int 0, .int (nI 4), .ref a1, .null, .null, .null, .int 0, .null, .null, .null, .null, .null, .long 0])), (a1, aI cI 6 (fun _ => 0))] := hD
  refine lv_aload_n hx hb dX1_init_17 rfl (lv_at hl 0 rfl) ?_
  refine lv_bipush (v := nI 6) hx hb dX1_init_18 (by decide) ?_
  refine va_newa (atype := .int) (ty := .int) (N' := 6) (a0 := (6, .inl (fun _ => 0))) hx hb (hts (.arrayClass .int) (by decide +kernel)) rfl hK hP hD hS hA (fun _ => rfl) (by decide) (by decide) (by decide) (Nat.le_of_ble_eq_true rfl) (Nat.le_of_ble_eq_true rfl) dX1_init_20 (fun a2 cA H hK hP hD hS => ?_)
  obtain rfl : cI = cA := (arr_same hK (t0 := 0) (t1 := 2) rfl rfl).symm
  have hK : va_K D cls2 (tys2 cI cD) ss := hK.sub [0, 1] rfl
  have hP : va_P D cls2 [(h0, .inr (1, [.int 0, .int (nI 4), .ref a1, .null, .null, .null, .int 0, .null, .null, .null, .null, .null, .long 0])), (a1, aI cI 6 (fun _ => 0)), (a2, aI cI 6 (fun _ => 0))] H := hP
  have hD : va_D A [(h0, .inr (1, [.int 0, .int (nI 4), .ref a1, .null, .null, .null, .int 0, .null, .null, .null, .null, .null, .long 0])), (a1, aI cI 6 (fun _ => 0)), (a2, aI cI 6 (fun _ => 0))] := hD
  refine W.widen (k := 2) (n := 12) (Nat.le_of_ble_eq_true rfl) (Nat.le_of_ble_eq_true rfl) ?_
  refine va_putF (D := D) (ci := 1) (v := .ref a2) (ty := .array .int) (C := RX1) (T := TX1) (N := 13) hx hb hts in_w tyX1 tyX1_ok nmX1 hown hK hP hD hS 0 rfl rfl 3 (by decide) (hts (.fieldLink RX1 17 "TurnEstimatorModel" "outflow" "[I") (by decide +kernel)) (fun _ h9 => h9) rfl hin2 rfl (by decide +kernel) rfl rfl (Nat.le_of_ble_eq_true rfl) dX1_init_22 (fun H locs hP hD hS => ?_)
  have hP : va_P D cls2 [(h0, .inr (1, [.int 0, .int (nI 4), .ref a1, .ref a2, .null, .null, .int 0, .null, .null, .null, .null, .null, .long 0])), (a1, aI cI 6 (fun _ => 0)), (a2, aI cI 6 (fun _ => 0))] H := hP
  have hD : va_D A [(h0, .inr (1, [.int 0, .int (nI 4), .ref a1, .ref a2, .null, .null, .int 0, .null, .null, .null, .null, .null, .long 0])), (a1, aI cI 6 (fun _ => 0)), (a2, aI cI 6 (fun _ => 0))] := hD
  refine lv_aload_n hx hb dX1_init_25 rfl (lv_at hl 0 rfl) ?_
  refine lv_bipush (v := nI 36) hx hb dX1_init_26 (by decide) ?_
  refine va_newa (atype := .int) (ty := .int) (N' := 36) (a0 := (36, .inl (fun _ => 0))) hx hb (hts (.arrayClass .int) (by decide +kernel)) rfl hK hP hD hS hA (fun _ => rfl) (by decide) (by decide) (by decide) (Nat.le_of_ble_eq_true rfl) (Nat.le_of_ble_eq_true rfl) dX1_init_28 (fun a3 cA H hK hP hD hS => ?_)
  obtain rfl : cI = cA := (arr_same hK (t0 := 0) (t1 := 2) rfl rfl).symm
  have hK : va_K D cls2 (tys2 cI cD) ss := hK.sub [0, 1] rfl
  have hP : va_P D cls2 [(h0, .inr (1, [.int 0, .int (nI 4), .ref a1, .ref a2, .null, .null, .int 0, .null, .null, .null, .null, .null, .long 0])), (a1, aI cI 6 (fun _ => 0)), (a2, aI cI 6 (fun _ => 0)), (a3, aI cI 36 (fun _ => 0))] H := hP
  have hD : va_D A [(h0, .inr (1, [.int 0, .int (nI 4), .ref a1, .ref a2, .null, .null, .int 0, .null, .null, .null, .null, .null, .long 0])), (a1, aI cI 6 (fun _ => 0)), (a2, aI cI 6 (fun _ => 0)), (a3, aI cI 36 (fun _ => 0))] := hD
  refine W.widen (k := 3) (n := 48) (Nat.le_of_ble_eq_true rfl) (Nat.le_of_ble_eq_true rfl) ?_
  refine va_putF (D := D) (ci := 1) (v := .ref a3) (ty := .array .int) (C := RX1) (T := TX1) (N := 13) hx hb hts in_w tyX1 tyX1_ok nmX1 hown hK hP hD hS 0 rfl rfl 4 (by decide) (hts (.fieldLink RX1 20 "TurnEstimatorModel" "weights" "[I") (by decide +kernel)) (fun _ h9 => h9) rfl hin2 rfl (by decide +kernel) rfl rfl (Nat.le_of_ble_eq_true rfl) dX1_init_30 (fun H locs hP hD hS => ?_)
  have hP : va_P D cls2 [(h0, .inr (1, [.int 0, .int (nI 4), .ref a1, .ref a2, .ref a3, .null, .int 0, .null, .null, .null, .null, .null, .long 0])), (a1, aI cI 6 (fun _ => 0)), (a2, aI cI 6 (fun _ => 0)), (a3, aI cI 36 (fun _ => 0))] H := hP
  have hD : va_D A [(h0, .inr (1, [.int 0, .int (nI 4), .ref a1, .ref a2, .ref a3, .null, .int 0, .null, .null, .null, .null, .null, .long 0])), (a1, aI cI 6 (fun _ => 0)), (a2, aI cI 6 (fun _ => 0)), (a3, aI cI 36 (fun _ => 0))] := hD
  refine lv_aload_n hx hb dX1_init_33 rfl (lv_at hl 0 rfl) ?_
  refine lv_bipush (v := nI 36) hx hb dX1_init_34 (by decide) ?_
  refine va_newa (atype := .double) (ty := .double) (N' := 36) (a0 := (36, .inr (.inr (.inr (.inl (fun _ => 0)))))) hx hb (hts (.arrayClass .double) (by decide +kernel)) rfl hK hP hD hS hA (fun _ => rfl) (by decide) (by decide) (by decide) (Nat.le_of_ble_eq_true rfl) (Nat.le_of_ble_eq_true rfl) dX1_init_36 (fun a4 cA H hK hP hD hS => ?_)
  obtain rfl : cD = cA := (arr_sameD hK (t0 := 1) (t1 := 2) rfl rfl).symm
  have hK : va_K D cls2 (tys2 cI cD) ss := hK.sub [0, 1] rfl
  have hP : va_P D cls2 [(h0, .inr (1, [.int 0, .int (nI 4), .ref a1, .ref a2, .ref a3, .null, .int 0, .null, .null, .null, .null, .null, .long 0])), (a1, aI cI 6 (fun _ => 0)), (a2, aI cI 6 (fun _ => 0)), (a3, aI cI 36 (fun _ => 0)), (a4, aD cD 36 (fun _ => 0))] H := hP
  have hD : va_D A [(h0, .inr (1, [.int 0, .int (nI 4), .ref a1, .ref a2, .ref a3, .null, .int 0, .null, .null, .null, .null, .null, .long 0])), (a1, aI cI 6 (fun _ => 0)), (a2, aI cI 6 (fun _ => 0)), (a3, aI cI 36 (fun _ => 0)), (a4, aD cD 36 (fun _ => 0))] := hD
  refine W.widen (k := 4) (n := 84) (Nat.le_of_ble_eq_true rfl) (Nat.le_of_ble_eq_true rfl) ?_
  refine va_putF (D := D) (ci := 1) (v := .ref a4) (ty := .array .double) (C := RX1) (T := TX1) (N := 13) hx hb hts in_w tyX1 tyX1_ok nmX1 hown hK hP hD hS 0 rfl rfl 5 (by decide) (hts (.fieldLink RX1 23 "TurnEstimatorModel" "estimates" "[D") (by decide +kernel)) (fun _ h9 => h9) rfl hin2 rfl (by decide +kernel) rfl rfl (Nat.le_of_ble_eq_true rfl) dX1_init_38 (fun H locs hP hD hS => ?_)
  have hP : va_P D cls2 [(h0, .inr (1, [.int 0, .int (nI 4), .ref a1, .ref a2, .ref a3, .ref a4, .int 0, .null, .null, .null, .null, .null, .long 0])), (a1, aI cI 6 (fun _ => 0)), (a2, aI cI 6 (fun _ => 0)), (a3, aI cI 36 (fun _ => 0)), (a4, aD cD 36 (fun _ => 0))] H := hP
  have hD : va_D A [(h0, .inr (1, [.int 0, .int (nI 4), .ref a1, .ref a2, .ref a3, .ref a4, .int 0, .null, .null, .null, .null, .null, .long 0])), (a1, aI cI 6 (fun _ => 0)), (a2, aI cI 6 (fun _ => 0)), (a3, aI cI 36 (fun _ => 0)), (a4, aD cD 36 (fun _ => 0))] := hD
  refine lv_aload_n hx hb dX1_init_41 rfl (lv_at hl 0 rfl) ?_
  refine lv_bipush (v := nI 36) hx hb dX1_init_42 (by decide) ?_
  refine va_newa (atype := .int) (ty := .int) (N' := 36) (a0 := (36, .inl (fun _ => 0))) hx hb (hts (.arrayClass .int) (by decide +kernel)) rfl hK hP hD hS hA (fun _ => rfl) (by decide) (by decide) (by decide) (Nat.le_of_ble_eq_true rfl) (Nat.le_of_ble_eq_true rfl) dX1_init_44 (fun a5 cA H hK hP hD hS => ?_)
  obtain rfl : cI = cA := (arr_same hK (t0 := 0) (t1 := 2) rfl rfl).symm
  have hK : va_K D cls2 (tys2 cI cD) ss := hK.sub [0, 1] rfl
  have hP : va_P D cls2 [(h0, .inr (1, [.int 0, .int (nI 4), .ref a1, .ref a2, .ref a3, .ref a4, .int 0, .null, .null, .null, .null, .null, .long 0])), (a1, aI cI 6 (fun _ => 0)), (a2, aI cI 6 (fun _ => 0)), (a3, aI cI 36 (fun _ => 0)), (a4, aD cD 36 (fun _ => 0)), (a5, aI cI 36 (fun _ => 0))] H := hP
  have hD : va_D A [(h0, .inr (1, [.int 0, .int (nI 4), .ref a1, .ref a2, .ref a3, .ref a4, .int 0, .null, .null, .null, .null, .null, .long 0])), (a1, aI cI 6 (fun _ => 0)), (a2, aI cI 6 (fun _ => 0)), (a3, aI cI 36 (fun _ => 0)), (a4, aD cD 36 (fun _ => 0)), (a5, aI cI 36 (fun _ => 0))] := hD
  refine W.widen (k := 5) (n := 120) (Nat.le_of_ble_eq_true rfl) (Nat.le_of_ble_eq_true rfl) ?_
  refine va_putF (D := D) (ci := 1) (v := .ref a5) (ty := .array .int) (C := RX1) (T := TX1) (N := 13) hx hb hts in_w tyX1 tyX1_ok nmX1 hown hK hP hD hS 0 rfl rfl 7 (by decide) (hts (.fieldLink RX1 27 "TurnEstimatorModel" "whole" "[I") (by decide +kernel)) (fun _ h9 => h9) rfl hin2 rfl (by decide +kernel) rfl rfl (Nat.le_of_ble_eq_true rfl) dX1_init_46 (fun H locs hP hD hS => ?_)
  have hP : va_P D cls2 [(h0, .inr (1, [.int 0, .int (nI 4), .ref a1, .ref a2, .ref a3, .ref a4, .int 0, .ref a5, .null, .null, .null, .null, .long 0])), (a1, aI cI 6 (fun _ => 0)), (a2, aI cI 6 (fun _ => 0)), (a3, aI cI 36 (fun _ => 0)), (a4, aD cD 36 (fun _ => 0)), (a5, aI cI 36 (fun _ => 0))] H := hP
  have hD : va_D A [(h0, .inr (1, [.int 0, .int (nI 4), .ref a1, .ref a2, .ref a3, .ref a4, .int 0, .ref a5, .null, .null, .null, .null, .long 0])), (a1, aI cI 6 (fun _ => 0)), (a2, aI cI 6 (fun _ => 0)), (a3, aI cI 36 (fun _ => 0)), (a4, aD cD 36 (fun _ => 0)), (a5, aI cI 36 (fun _ => 0))] := hD
  refine lv_aload_n hx hb dX1_init_49 rfl (lv_at hl 0 rfl) ?_
  refine lv_bipush (v := nI 6) hx hb dX1_init_50 (by decide) ?_
  refine va_newa (atype := .double) (ty := .double) (N' := 6) (a0 := (6, .inr (.inr (.inr (.inl (fun _ => 0)))))) hx hb (hts (.arrayClass .double) (by decide +kernel)) rfl hK hP hD hS hA (fun _ => rfl) (by decide) (by decide) (by decide) (Nat.le_of_ble_eq_true rfl) (Nat.le_of_ble_eq_true rfl) dX1_init_52 (fun a6 cA H hK hP hD hS => ?_)
  obtain rfl : cD = cA := (arr_sameD hK (t0 := 1) (t1 := 2) rfl rfl).symm
  have hK : va_K D cls2 (tys2 cI cD) ss := hK.sub [0, 1] rfl
  have hP : va_P D cls2 [(h0, .inr (1, [.int 0, .int (nI 4), .ref a1, .ref a2, .ref a3, .ref a4, .int 0, .ref a5, .null, .null, .null, .null, .long 0])), (a1, aI cI 6 (fun _ => 0)), (a2, aI cI 6 (fun _ => 0)), (a3, aI cI 36 (fun _ => 0)), (a4, aD cD 36 (fun _ => 0)), (a5, aI cI 36 (fun _ => 0)), (a6, aD cD 6 (fun _ => 0))] H := hP
  have hD : va_D A [(h0, .inr (1, [.int 0, .int (nI 4), .ref a1, .ref a2, .ref a3, .ref a4, .int 0, .ref a5, .null, .null, .null, .null, .long 0])), (a1, aI cI 6 (fun _ => 0)), (a2, aI cI 6 (fun _ => 0)), (a3, aI cI 36 (fun _ => 0)), (a4, aD cD 36 (fun _ => 0)), (a5, aI cI 36 (fun _ => 0)), (a6, aD cD 6 (fun _ => 0))] := hD
  refine W.widen (k := 6) (n := 126) (Nat.le_of_ble_eq_true rfl) (Nat.le_of_ble_eq_true rfl) ?_
  refine va_putF (D := D) (ci := 1) (v := .ref a6) (ty := .array .double) (C := RX1) (T := TX1) (N := 13) hx hb hts in_w tyX1 tyX1_ok nmX1 hown hK hP hD hS 0 rfl rfl 8 (by decide) (hts (.fieldLink RX1 30 "TurnEstimatorModel" "fraction" "[D") (by decide +kernel)) (fun _ h9 => h9) rfl hin2 rfl (by decide +kernel) rfl rfl (Nat.le_of_ble_eq_true rfl) dX1_init_54 (fun H locs hP hD hS => ?_)
  have hP : va_P D cls2 [(h0, .inr (1, [.int 0, .int (nI 4), .ref a1, .ref a2, .ref a3, .ref a4, .int 0, .ref a5, .ref a6, .null, .null, .null, .long 0])), (a1, aI cI 6 (fun _ => 0)), (a2, aI cI 6 (fun _ => 0)), (a3, aI cI 36 (fun _ => 0)), (a4, aD cD 36 (fun _ => 0)), (a5, aI cI 36 (fun _ => 0)), (a6, aD cD 6 (fun _ => 0))] H := hP
  have hD : va_D A [(h0, .inr (1, [.int 0, .int (nI 4), .ref a1, .ref a2, .ref a3, .ref a4, .int 0, .ref a5, .ref a6, .null, .null, .null, .long 0])), (a1, aI cI 6 (fun _ => 0)), (a2, aI cI 6 (fun _ => 0)), (a3, aI cI 36 (fun _ => 0)), (a4, aD cD 36 (fun _ => 0)), (a5, aI cI 36 (fun _ => 0)), (a6, aD cD 6 (fun _ => 0))] := hD
  refine lv_aload_n hx hb dX1_init_57 rfl (lv_at hl 0 rfl) ?_
  refine lv_bipush (v := nI 36) hx hb dX1_init_58 (by decide) ?_
  refine va_newa (atype := .int) (ty := .int) (N' := 36) (a0 := (36, .inl (fun _ => 0))) hx hb (hts (.arrayClass .int) (by decide +kernel)) rfl hK hP hD hS hA (fun _ => rfl) (by decide) (by decide) (by decide) (Nat.le_of_ble_eq_true rfl) (Nat.le_of_ble_eq_true rfl) dX1_init_60 (fun a7 cA H hK hP hD hS => ?_)
  obtain rfl : cI = cA := (arr_same hK (t0 := 0) (t1 := 2) rfl rfl).symm
  have hK : va_K D cls2 (tys2 cI cD) ss := hK.sub [0, 1] rfl
  have hP : va_P D cls2 [(h0, .inr (1, [.int 0, .int (nI 4), .ref a1, .ref a2, .ref a3, .ref a4, .int 0, .ref a5, .ref a6, .null, .null, .null, .long 0])), (a1, aI cI 6 (fun _ => 0)), (a2, aI cI 6 (fun _ => 0)), (a3, aI cI 36 (fun _ => 0)), (a4, aD cD 36 (fun _ => 0)), (a5, aI cI 36 (fun _ => 0)), (a6, aD cD 6 (fun _ => 0)), (a7, aI cI 36 (fun _ => 0))] H := hP
  have hD : va_D A [(h0, .inr (1, [.int 0, .int (nI 4), .ref a1, .ref a2, .ref a3, .ref a4, .int 0, .ref a5, .ref a6, .null, .null, .null, .long 0])), (a1, aI cI 6 (fun _ => 0)), (a2, aI cI 6 (fun _ => 0)), (a3, aI cI 36 (fun _ => 0)), (a4, aD cD 36 (fun _ => 0)), (a5, aI cI 36 (fun _ => 0)), (a6, aD cD 6 (fun _ => 0)), (a7, aI cI 36 (fun _ => 0))] := hD
  refine W.widen (k := 7) (n := 162) (Nat.le_of_ble_eq_true rfl) (Nat.le_of_ble_eq_true rfl) ?_
  refine va_putF (D := D) (ci := 1) (v := .ref a7) (ty := .array .int) (C := RX1) (T := TX1) (N := 13) hx hb hts in_w tyX1 tyX1_ok nmX1 hown hK hP hD hS 0 rfl rfl 9 (by decide) (hts (.fieldLink RX1 33 "TurnEstimatorModel" "table" "[I") (by decide +kernel)) (fun _ h9 => h9) rfl hin2 rfl (by decide +kernel) rfl rfl (Nat.le_of_ble_eq_true rfl) dX1_init_62 (fun H locs hP hD hS => ?_)
  have hP : va_P D cls2 [(h0, .inr (1, [.int 0, .int (nI 4), .ref a1, .ref a2, .ref a3, .ref a4, .int 0, .ref a5, .ref a6, .ref a7, .null, .null, .long 0])), (a1, aI cI 6 (fun _ => 0)), (a2, aI cI 6 (fun _ => 0)), (a3, aI cI 36 (fun _ => 0)), (a4, aD cD 36 (fun _ => 0)), (a5, aI cI 36 (fun _ => 0)), (a6, aD cD 6 (fun _ => 0)), (a7, aI cI 36 (fun _ => 0))] H := hP
  have hD : va_D A [(h0, .inr (1, [.int 0, .int (nI 4), .ref a1, .ref a2, .ref a3, .ref a4, .int 0, .ref a5, .ref a6, .ref a7, .null, .null, .long 0])), (a1, aI cI 6 (fun _ => 0)), (a2, aI cI 6 (fun _ => 0)), (a3, aI cI 36 (fun _ => 0)), (a4, aD cD 36 (fun _ => 0)), (a5, aI cI 36 (fun _ => 0)), (a6, aD cD 6 (fun _ => 0)), (a7, aI cI 36 (fun _ => 0))] := hD
  refine lv_aload_n hx hb dX1_init_65 rfl (lv_at hl 0 rfl) ?_
  refine lv_bipush (v := nI 6) hx hb dX1_init_66 (by decide) ?_
  refine va_newa (atype := .int) (ty := .int) (N' := 6) (a0 := (6, .inl (fun _ => 0))) hx hb (hts (.arrayClass .int) (by decide +kernel)) rfl hK hP hD hS hA (fun _ => rfl) (by decide) (by decide) (by decide) (Nat.le_of_ble_eq_true rfl) (Nat.le_of_ble_eq_true rfl) dX1_init_68 (fun a8 cA H hK hP hD hS => ?_)
  obtain rfl : cI = cA := (arr_same hK (t0 := 0) (t1 := 2) rfl rfl).symm
  have hK : va_K D cls2 (tys2 cI cD) ss := hK.sub [0, 1] rfl
  have hP : va_P D cls2 [(h0, .inr (1, [.int 0, .int (nI 4), .ref a1, .ref a2, .ref a3, .ref a4, .int 0, .ref a5, .ref a6, .ref a7, .null, .null, .long 0])), (a1, aI cI 6 (fun _ => 0)), (a2, aI cI 6 (fun _ => 0)), (a3, aI cI 36 (fun _ => 0)), (a4, aD cD 36 (fun _ => 0)), (a5, aI cI 36 (fun _ => 0)), (a6, aD cD 6 (fun _ => 0)), (a7, aI cI 36 (fun _ => 0)), (a8, aI cI 6 (fun _ => 0))] H := hP
  have hD : va_D A [(h0, .inr (1, [.int 0, .int (nI 4), .ref a1, .ref a2, .ref a3, .ref a4, .int 0, .ref a5, .ref a6, .ref a7, .null, .null, .long 0])), (a1, aI cI 6 (fun _ => 0)), (a2, aI cI 6 (fun _ => 0)), (a3, aI cI 36 (fun _ => 0)), (a4, aD cD 36 (fun _ => 0)), (a5, aI cI 36 (fun _ => 0)), (a6, aD cD 6 (fun _ => 0)), (a7, aI cI 36 (fun _ => 0)), (a8, aI cI 6 (fun _ => 0))] := hD
  refine W.widen (k := 8) (n := 168) (Nat.le_of_ble_eq_true rfl) (Nat.le_of_ble_eq_true rfl) ?_
  refine va_putF (D := D) (ci := 1) (v := .ref a8) (ty := .array .int) (C := RX1) (T := TX1) (N := 13) hx hb hts in_w tyX1 tyX1_ok nmX1 hown hK hP hD hS 0 rfl rfl 10 (by decide) (hts (.fieldLink RX1 36 "TurnEstimatorModel" "rowLeft" "[I") (by decide +kernel)) (fun _ h9 => h9) rfl hin2 rfl (by decide +kernel) rfl rfl (Nat.le_of_ble_eq_true rfl) dX1_init_70 (fun H locs hP hD hS => ?_)
  have hP : va_P D cls2 [(h0, .inr (1, [.int 0, .int (nI 4), .ref a1, .ref a2, .ref a3, .ref a4, .int 0, .ref a5, .ref a6, .ref a7, .ref a8, .null, .long 0])), (a1, aI cI 6 (fun _ => 0)), (a2, aI cI 6 (fun _ => 0)), (a3, aI cI 36 (fun _ => 0)), (a4, aD cD 36 (fun _ => 0)), (a5, aI cI 36 (fun _ => 0)), (a6, aD cD 6 (fun _ => 0)), (a7, aI cI 36 (fun _ => 0)), (a8, aI cI 6 (fun _ => 0))] H := hP
  have hD : va_D A [(h0, .inr (1, [.int 0, .int (nI 4), .ref a1, .ref a2, .ref a3, .ref a4, .int 0, .ref a5, .ref a6, .ref a7, .ref a8, .null, .long 0])), (a1, aI cI 6 (fun _ => 0)), (a2, aI cI 6 (fun _ => 0)), (a3, aI cI 36 (fun _ => 0)), (a4, aD cD 36 (fun _ => 0)), (a5, aI cI 36 (fun _ => 0)), (a6, aD cD 6 (fun _ => 0)), (a7, aI cI 36 (fun _ => 0)), (a8, aI cI 6 (fun _ => 0))] := hD
  refine lv_aload_n hx hb dX1_init_73 rfl (lv_at hl 0 rfl) ?_
  refine lv_bipush (v := nI 6) hx hb dX1_init_74 (by decide) ?_
  refine va_newa (atype := .int) (ty := .int) (N' := 6) (a0 := (6, .inl (fun _ => 0))) hx hb (hts (.arrayClass .int) (by decide +kernel)) rfl hK hP hD hS hA (fun _ => rfl) (by decide) (by decide) (by decide) (Nat.le_of_ble_eq_true rfl) (Nat.le_of_ble_eq_true rfl) dX1_init_76 (fun a9 cA H hK hP hD hS => ?_)
  obtain rfl : cI = cA := (arr_same hK (t0 := 0) (t1 := 2) rfl rfl).symm
  have hK : va_K D cls2 (tys2 cI cD) ss := hK.sub [0, 1] rfl
  have hP : va_P D cls2 [(h0, .inr (1, [.int 0, .int (nI 4), .ref a1, .ref a2, .ref a3, .ref a4, .int 0, .ref a5, .ref a6, .ref a7, .ref a8, .null, .long 0])), (a1, aI cI 6 (fun _ => 0)), (a2, aI cI 6 (fun _ => 0)), (a3, aI cI 36 (fun _ => 0)), (a4, aD cD 36 (fun _ => 0)), (a5, aI cI 36 (fun _ => 0)), (a6, aD cD 6 (fun _ => 0)), (a7, aI cI 36 (fun _ => 0)), (a8, aI cI 6 (fun _ => 0)), (a9, aI cI 6 (fun _ => 0))] H := hP
  have hD : va_D A [(h0, .inr (1, [.int 0, .int (nI 4), .ref a1, .ref a2, .ref a3, .ref a4, .int 0, .ref a5, .ref a6, .ref a7, .ref a8, .null, .long 0])), (a1, aI cI 6 (fun _ => 0)), (a2, aI cI 6 (fun _ => 0)), (a3, aI cI 36 (fun _ => 0)), (a4, aD cD 36 (fun _ => 0)), (a5, aI cI 36 (fun _ => 0)), (a6, aD cD 6 (fun _ => 0)), (a7, aI cI 36 (fun _ => 0)), (a8, aI cI 6 (fun _ => 0)), (a9, aI cI 6 (fun _ => 0))] := hD
  refine W.widen (k := 9) (n := 174) (Nat.le_of_ble_eq_true rfl) (Nat.le_of_ble_eq_true rfl) ?_
  refine va_putF (D := D) (ci := 1) (v := .ref a9) (ty := .array .int) (C := RX1) (T := TX1) (N := 13) hx hb hts in_w tyX1 tyX1_ok nmX1 hown hK hP hD hS 0 rfl rfl 11 (by decide) (hts (.fieldLink RX1 39 "TurnEstimatorModel" "columnLeft" "[I") (by decide +kernel)) (fun _ h9 => h9) rfl hin2 rfl (by decide +kernel) rfl rfl (Nat.le_of_ble_eq_true rfl) dX1_init_78 (fun H locs hP hD hS => ?_)
  have hP : va_P D cls2 [(h0, .inr (1, [.int 0, .int (nI 4), .ref a1, .ref a2, .ref a3, .ref a4, .int 0, .ref a5, .ref a6, .ref a7, .ref a8, .ref a9, .long 0])), (a1, aI cI 6 (fun _ => 0)), (a2, aI cI 6 (fun _ => 0)), (a3, aI cI 36 (fun _ => 0)), (a4, aD cD 36 (fun _ => 0)), (a5, aI cI 36 (fun _ => 0)), (a6, aD cD 6 (fun _ => 0)), (a7, aI cI 36 (fun _ => 0)), (a8, aI cI 6 (fun _ => 0)), (a9, aI cI 6 (fun _ => 0))] H := hP
  have hD : va_D A [(h0, .inr (1, [.int 0, .int (nI 4), .ref a1, .ref a2, .ref a3, .ref a4, .int 0, .ref a5, .ref a6, .ref a7, .ref a8, .ref a9, .long 0])), (a1, aI cI 6 (fun _ => 0)), (a2, aI cI 6 (fun _ => 0)), (a3, aI cI 36 (fun _ => 0)), (a4, aD cD 36 (fun _ => 0)), (a5, aI cI 36 (fun _ => 0)), (a6, aD cD 6 (fun _ => 0)), (a7, aI cI 36 (fun _ => 0)), (a8, aI cI 6 (fun _ => 0)), (a9, aI cI 6 (fun _ => 0))] := hD
  have hq : qD (qf h0 a1 a2 a3 a4 a5 a6 a7 a8 a9) := qD_of hD rfl
  have hQA : ∀ x, qA (qf h0 a1 a2 a3 a4 a5 a6 a7 a8 a9) x → A x := qA_of hD rfl
  have hP : va_P D cls2 (mW (qf h0 a1 a2 a3 a4 a5 a6 a7 a8 a9) cI cD (nI 0) (nI 4) (nI 0) 0 (fun _ => 0) (fun _ => 0) (fun _ => 0) (fun _ => 0) (fun _ => 0) (fun _ => 0) (fun _ => 0) (fun _ => 0) (fun _ => 0)) H := hP
  refine lv_aload_n hx hb dX1_init_81 rfl (lv_at hl 0 rfl) ?_
  refine va_callv (va_runV (As := []) (rest := []) ⟨hx, hb, hml, hown, hts⟩ (c_X1_begin (l := l) (n := 4) (q := (qf h0 a1 a2 a3 a4 a5 a6 a7 a8 a9)) (by decide) hq) (cwV 0 hts gX1_init_X1_begin rfl rfl rfl hdX1_begin ⟨Nat.le_of_ble_eq_true rfl, Nat.le_of_ble_eq_true rfl⟩) (preV hK hP rfl rfl) rfl rfl hl.1 rfl (lv_room (Nat.le_of_ble_eq_true rfl)) dX1_init_82 ⟨Nat.le_of_ble_eq_true rfl, Nat.le_of_ble_eq_true rfl⟩) hS (fun x _ h => hQA x h) (fun x h => hQA x h) (fun u t H locs ht hvm hw hB hz1 hk1 hS => ?_)
  replace hB : va_P D cls2 _ t.heap := hB
  rw [ht] at hB
  refine W.widen (k := 9) (n := 174) (Nat.le_of_ble_eq_true rfl) (Nat.le_of_ble_eq_true rfl) ?_
  exact W.vret hx hb hr (fun t ht hWm => ⟨⟨((qf h0 a1 a2 a3 a4 a5 a6 a7 a8 a9), u), rfl, ⟨hq, rfl, fun k hk => hQA _ ⟨k, hk, rfl⟩, hw⟩, (show va_P D cls2 _ t.heap from by rw [ht]; exact hB)⟩, hS.F ht⟩) hS.2.2 dX1_init_85
