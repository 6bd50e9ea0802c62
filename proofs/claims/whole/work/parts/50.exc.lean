/-! what a throw of the component needs of the state -/
abbrev eI : String := "java/lang/IndexOutOfBoundsException"
abbrev eA : String := "java/lang/IllegalArgumentException"
abbrev eS : String := "java/lang/IllegalStateException"
abbrev eR : String := "java/lang/ArithmeticException"
abbrev eN : List String := ["java/lang/RuntimeException", "java/lang/Exception"]
def xWs : List Cond := [.declares (Bundle.initS "java/lang/RuntimeException"), .declares (Bundle.initS "java/lang/Exception"), .declares (Bundle.initS Bundle.tN), .castable eI eI, .castable eA eA, .castable eS eS, .castable eR eR]
def xG (sa : Nat → Nat) (U : State) (H : Heap) : Prop :=
  (vx_Zq Bundle.tN "UNASSIGNED_STACK" Bundle.steD (fun _ => False) U H ∧ vx_Zq Bundle.tN "SUPPRESSED_SENTINEL" Bundle.listD (fun _ => False) U H) ∧
  (vk_R RX0 154 "the arm does not exist" (sa 0) U ∧ vk_R RX0 159 "the argument is out of its range" (sa 1) U ∧ vk_R RX0 164 "a count would become greater than 9999" (sa 2) U ∧ vk_R RX0 118 "the second product is not greater than 0.0" (sa 3) U) ∧
  (∀ w ∈ xWs, va_Nw w U) ∧ va_Nc eA eI U ∧ va_Nc eS eA U ∧ va_Nc eR eI U
theorem xNw_warm {s U : State} (hW : s.WarmedH U.vm) (h : ∀ w ∈ xWs, va_Nw w s) : ∀ w ∈ xWs, va_Nw w U := by
  intro w hw
  have h1 := h w hw
  simp only [xWs, List.mem_cons, List.not_mem_nil, or_false] at hw
  rcases hw with rfl | rfl | rfl | rfl | rfl | rfl | rfl
  · exact va_Nw.warmD hW h1
  · exact va_Nw.warmD hW h1
  · exact va_Nw.warmD hW h1
  · exact va_Nw.warmC hW h1
  · exact va_Nw.warmC hW h1
  · exact va_Nw.warmC hW h1
  · exact va_Nw.warmC hW h1
theorem xW_use {args : Array Value} {s : State} (h : ∀ w ∈ xWs, va_Nw w s) : ∀ w ∈ xWs, w.before args s = true := by
  intro w hw
  have h1 := h w hw
  simp only [xWs, List.mem_cons, List.not_mem_nil, or_false] at hw
  rcases hw with rfl | rfl | rfl | rfl | rfl | rfl | rfl <;> exact va_Nw.use rfl h1
theorem xG.warm {sa : Nat → Nat} {s U : State} {H : Heap} (hW : s.WarmedH U.vm) (h : xG sa s H) : xG sa U H :=
  ⟨⟨h.1.1.moved hW.alike, h.1.2.moved hW.alike⟩, ⟨h.2.1.1.warm hW, h.2.1.2.1.warm hW, h.2.1.2.2.1.warm hW, h.2.1.2.2.2.warm hW⟩, xNw_warm hW h.2.2.1, h.2.2.2.1.moved hW.alike, h.2.2.2.2.1.moved hW.alike, h.2.2.2.2.2.moved hW.alike⟩
def xPre (D : va_G) (tys : List (ClassId × FieldType)) (ws : va_W) (sa : Nat → Nat) : State → Prop := fun U => wPre D tys ws U ∧ xG sa U U.heap
theorem xBlind (D : va_G) (tys : List (ClassId × FieldType)) (ws : va_W) (sa : Nat → Nat) (av : List Value) : FrameBlind (va_Pc av (xPre D tys ws sa)) := fun a U g mk h =>
  ⟨h.1, ⟨h.2.1.1, va_K.moved (u := U) (U := U.calling g mk a) (Vm.Alike.refl U.vm) h.2.1.2⟩, xG.warm (s := U) (U := U.calling g mk a) (State.WarmedH.refl U) h.2.2⟩
theorem preX {s : State} {H : Heap} {D : va_G} {tys : List (ClassId × FieldType)} {ws : va_W} {sa : Nat → Nat} {b ci : Nat} {fs As : List Value} {C : String} {T : u_T} {N : Nat} (hK : va_K D cls2 tys s) (hP : va_P D cls2 ws H) (hG : xG sa s H) (h0 : ws[0]? = some (b, .inr (ci, fs))) (hc : cls2[ci]? = some (C, T, N)) : PreV s H C b (va_Pc (.ref b :: As) (xPre D tys ws sa)) As :=
  ⟨xBlind D tys ws sa _, va_recv hK hP hc h0, fun U hU hW => ⟨rfl, ⟨by rw [hU]; exact hP, va_K.moved hW.alike hK⟩, by rw [hU]; exact hG.warm hW⟩⟩
def yPre (sa : Nat → Nat) : State → Prop := fun U => xG sa U U.heap
theorem yBlind (sa : Nat → Nat) (av : List Value) : FrameBlind (va_Pc av (yPre sa)) := fun a U g mk h =>
  ⟨h.1, xG.warm (s := U) (U := U.calling g mk a) (State.WarmedH.refl U) h.2⟩
theorem preY {s : State} {H : Heap} {sa : Nat → Nat} {As : List Value} (hG : xG sa s H) : PreS s H (va_Pc As (yPre sa)) As :=
  ⟨yBlind sa As, fun U hU hW => ⟨rfl, show xG sa U U.heap by rw [hU]; exact hG.warm hW⟩⟩
def xX (E0 : String) : String → State → State → Prop := vx_X (fun _ : Unit => True) (fun E _ _ => E = E0) (fun _ => False)
theorem xmet_intro {l : Launch} {y : MethodName} {ws ws' : List Cond} {rm : Room} {Qc : Array Value → State → Outcome → State → Prop} {XC : String → State → State → Prop} {mc ms : Nat} {free : Addr → Prop} {cc : ByteArray} {maxL : Nat} {ret : Option FieldType} {own : String} {vs : List Value} {B : State → Prop}
    (hy : plainName y.cls = true) (hw : ws = Cond.code y cc maxL ret :: ws') (hcls : y.cls = own) (hlen : (lg_sl vs).length ≤ maxL)
    (body : ∀ p e s m args below meth c (Q : State → Prop) (ls : Array Slot), Q = vx_MQ below Qc XC args s mc ms free → CallFix p m c cc maxL s args ws own → meth.sig.returnType = ret → meth.locks = false → (∀ x ∈ c.exceptionTable.toList, False) → args = vs.toArray → B s → lv_has ls maxL (lv_args 0 vs) → W p l e rm s m args below meth c s.heap [] 0 0 Q (F0 m 0 ls [])) : vx_Met l y ws rm (va_Pc vs B) Qc XC mc ms free := by
  refine vx_ofW (cc := cc) (maxL := maxL) (ret := ret) hy hw ?_
  intro p e s m args below meth c s₁ BB hml hnt hv
  obtain ⟨hv0, hB⟩ := hv
  have hts := atoms_spec (ws := ws) BB.pre
  have hown : s.vm.findClass own = some m.cls := by rw [← hcls]; exact findClass_of_methodNamed BB.named
  have hl := lv_entry vs (n := maxL) hlen
  have key := body p e s m args below meth c _ _ rfl ⟨BB.exec, BB.bytes, hml, hown, hts⟩ BB.returns BB.notSynchronized hnt hv0 hB hl
  rw [hv0, lg_entry_eq]
  rw [hv0] at key
  exact key
theorem armB_f {n : Nat} (hn : 3 ≤ n ∧ n ≤ 6) {x : Int32} (h : armB n x = false) (h1 : ¬ x < 0) : ¬ x < nI n := by
  intro h2
  unfold armB wth at h
  rw [nI_sub1 (by omega), if_neg (show ¬ x < nI 0 from h1)] at h
  by_cases h3 : nI (n - 1) < x
  · rw [Int32.lt_iff_toInt_lt, nI_toInt (by omega)] at h2 h3
    omega
  · rw [if_neg h3] at h; cases h
theorem wth_f {v a b : Int32} (h : wth v a b = false) (h1 : ¬ v < a) : ¬ v ≤ b := by
  unfold wth at h
  rw [if_neg h1] at h
  by_cases h3 : b < v
  · exact Int32.not_le.mpr h3
  · rw [if_neg h3] at h; cases h
