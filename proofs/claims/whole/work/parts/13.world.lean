/-! the two worlds: the component's object with its nine arrays, the reference's with its nine -/
abbrev cls2 : List vw_C := [(RX0, TX0, 11), (RX1, TX1, 13)]
abbrev tys2 (cI cD : ClassId) : List (ClassId × FieldType) := [(cI, .int), (cD, .double)]
abbrev aI (cI : ClassId) (n : Nat) (f : Nat → Int32) : va_E := .inl (cI, n, .inl f)
abbrev aD (cD : ClassId) (n : Nat) (f : Nat → UInt64) : va_E := .inl (cD, n, .inr (.inr (.inr (.inl f))))
/-- component: inflows outflows weights estimates targets roundedTable possibleTable outflowsLeft fractions -/
abbrev cW (q : Nat → Nat) (cI cD : ClassId) (nA rC : Int32) (fi fo fw : Nat → Int32) (fe : Nat → UInt64) (ft fr fp fl : Nat → Int32) (ff : Nat → UInt64) : va_W :=
  [(q 0, .inr (0, [.ref (q 1), .ref (q 2), .ref (q 3), .ref (q 4), .ref (q 5), .ref (q 6), .ref (q 7), .ref (q 8), .ref (q 9), .int nA, .int rC])), (q 1, aI cI 6 fi), (q 2, aI cI 6 fo), (q 3, aI cI 36 fw), (q 4, aD cD 36 fe), (q 5, aI cI 6 ft), (q 6, aI cI 36 fr), (q 7, aI cI 36 fp), (q 8, aI cI 6 fl), (q 9, aD cD 6 ff)]
/-- reference: inflow outflow weights estimates whole fraction table rowLeft columnLeft -/
abbrev mW (q : Nat → Nat) (cI cD : ClassId) (th nA rC : Int32) (hh : Int64) (fi fo fw : Nat → Int32) (fe : Nat → UInt64) (fr : Nat → Int32) (ff : Nat → UInt64) (fp fl fc : Nat → Int32) : va_W :=
  [(q 0, .inr (1, [.int th, .int nA, .ref (q 1), .ref (q 2), .ref (q 3), .ref (q 4), .int rC, .ref (q 5), .ref (q 6), .ref (q 7), .ref (q 8), .ref (q 9), .long hh])), (q 1, aI cI 6 fi), (q 2, aI cI 6 fo), (q 3, aI cI 36 fw), (q 4, aD cD 36 fe), (q 5, aI cI 36 fr), (q 6, aD cD 6 ff), (q 7, aI cI 36 fp), (q 8, aI cI 6 fl), (q 9, aI cI 6 fc)]
/-- the ten addresses are apart -/
def qD (q : Nat → Nat) : Prop := ∀ i j : Nat, i < 10 → j < 10 → q i = q j → i = j
def qA (q : Nat → Nat) : Nat → Prop := fun x => ∃ k : Nat, k < 10 ∧ x = q k
theorem wD_of {q : Nat → Nat} (hq : qD q) {w : va_W} (he : w.map (fun x => x.1) = [q 0, q 1, q 2, q 3, q 4, q 5, q 6, q 7, q 8, q 9]) : va_D (qA q) w := by
  have he' : w.map (fun x => x.1) = (List.range 10).map q := he
  have key : ∀ (k : Nat) (x : Nat × va_E), w[k]? = some x → k < 10 ∧ x.1 = q k := by
    intro k x hk
    have h1 : (w.map (fun x => x.1))[k]? = some x.1 := by rw [List.getElem?_map, hk]; rfl
    rw [he', List.getElem?_map] at h1
    by_cases h : k < 10
    · rw [List.getElem?_range h] at h1
      exact ⟨h, (Option.some.inj h1).symm⟩
    · rw [List.getElem?_eq_none (by rw [List.length_range]; omega)] at h1
      cases h1
  refine ⟨fun i j x y hi hj hxy => ?_, fun k x hk => ?_⟩
  · obtain ⟨h1, h2⟩ := key i x hi
    obtain ⟨h3, h4⟩ := key j y hj
    exact hq i j h1 h3 (by rw [← h2, ← h4, hxy])
  · obtain ⟨h1, h2⟩ := key k x hk
    exact ⟨k, h1, h2⟩
def wPre (D : va_G) (tys : List (ClassId × FieldType)) (ws : va_W) : State → Prop := fun U => va_P D cls2 ws U.heap ∧ va_K D cls2 tys U
theorem wBlind (D : va_G) (tys : List (ClassId × FieldType)) (ws : va_W) (av : List Value) : FrameBlind (va_Pc av (wPre D tys ws)) := fun a U g mk h => ⟨h.1, h.2.1, va_K.moved (u := U) (U := U.calling g mk a) (Vm.Alike.refl U.vm) h.2.2⟩
theorem nBlind (av : List Value) : FrameBlind (va_Pc av (fun _ => True)) := fun a U g mk h => h
theorem preV {s : State} {H : Heap} {D : va_G} {tys : List (ClassId × FieldType)} {ws : va_W} {b ci : Nat} {fs As : List Value} {C : String} {T : u_T} {N : Nat} (hK : va_K D cls2 tys s) (hP : va_P D cls2 ws H) (h0 : ws[0]? = some (b, .inr (ci, fs))) (hc : cls2[ci]? = some (C, T, N)) : PreV s H C b (va_Pc (.ref b :: As) (wPre D tys ws)) As :=
  ⟨wBlind D tys ws _, va_recv hK hP hc h0, fun U hU hW => ⟨rfl, by rw [hU]; exact hP, va_K.moved hW.alike hK⟩⟩
theorem preS {s : State} {H : Heap} {As : List Value} : PreS s H (va_Pc As (fun _ => True)) As := ⟨nBlind As, fun U hU hW => ⟨rfl, trivial⟩⟩
/-- a method's contract out of the walk of its body -/
theorem met_intro {l : Launch} {y : MethodName} {ws ws' : List Cond} {rm : Room} {Qc : Array Value → State → Outcome → State → Prop} {mc ms : Nat} {free : Addr → Prop} {cc : ByteArray} {maxL : Nat} {ret : Option FieldType} {own : String} {vs : List Value} {B : State → Prop}
    (hy : plainName y.cls = true) (hw : ws = Cond.code y cc maxL ret :: ws') (hcls : y.cls = own) (hlen : (lg_sl vs).length ≤ maxL)
    (body : ∀ p e s m args below meth c (Q : State → Prop) (ls : Array Slot), Q = MQ below Qc args s mc ms free → CallFix p m c cc maxL s args ws own → meth.sig.returnType = ret → meth.locks = false → args = vs.toArray → B s → lv_has ls maxL (lv_args 0 vs) → W p l e rm s m args below meth c s.heap [] 0 0 Q (F0 m 0 ls [])) : Met l y ws rm (va_Pc vs B) Qc mc ms free := by
  refine Met.ofW (cc := cc) (maxL := maxL) (ret := ret) hy hw ?_
  intro p e s m args below meth c s₁ BB hml hv
  obtain ⟨hv0, hB⟩ := hv
  have hts := atoms_spec (ws := ws) BB.pre
  have hown : s.vm.findClass own = some m.cls := by rw [← hcls]; exact findClass_of_methodNamed BB.named
  have hl := lv_entry vs (n := maxL) hlen
  have key := body p e s m args below meth c _ _ rfl ⟨BB.exec, BB.bytes, hml, hown, hts⟩ BB.returns BB.notSynchronized hv0 hB hl
  rw [hv0, lg_entry_eq]
  rw [hv0] at key
  exact key
section MYC
variable {p : Program} {l : Launch} {e : Env} {R : Room} {s : State} {m : MethodId} {args : Array Value} {below : List Frame} {meth : Method} {c : Code} {H : Heap} {locs : List Loc} {cells slots : Nat} {Q : State → Prop}
variable {cc : ByteArray} {pc : Nat} {ls : Array Slot} {rest : List Value} {D : va_G} {cI cD : ClassId} {q : Nat → Nat} {Ts : List Cond} {nL : Nat}
/-- a field of the component's object -/
theorem w_getC {own : String} {index : Nat} {ws : va_W} {fs : List Value} {tys : List (ClassId × FieldType)} (S : CallFix p m c cc nL s args Ts RX0) (hin : ∀ w ∈ wsX00, w ∈ Ts) (hK : va_K D cls2 tys s) (hP : va_P D cls2 ws H) (he : ws[0]? = some (q 0, .inr (0, fs))) (k : Nat) (hk : k < 11) (hlink : Cond.fieldLink RX0 index RX0 (TX0 k).2.1 (TX0 k).2.2.1 ∈ Ts) {v : Value} (hv : fs[k]? = some v) (hsame : (TX0 k).1 = RX0) (hdg : decode cc pc = .ok (.getfield index, 3))
    (kk : W p l e R s m args below meth c H locs cells slots Q (F0 m (pc + 3) ls (v :: rest))) : W p l e R s m args below meth c H locs cells slots Q (F0 m pc ls (.ref (q 0) :: rest)) :=
  va_get (C := RX0) (T := TX0) (N := 11) (ci := 0) S.1 S.2.1 S.2.2.2.2 hin S.2.2.2.1 hK hP 0 he rfl k hk (S.2.2.2.2 _ hlink) (fun x h => by rw [hsame] at h; exact h) hv hdg kk
theorem w_getM {own : String} {index : Nat} {ws : va_W} {fs : List Value} {tys : List (ClassId × FieldType)} (S : CallFix p m c cc nL s args Ts RX1) (hin : ∀ w ∈ wsX10, w ∈ Ts) (hK : va_K D cls2 tys s) (hP : va_P D cls2 ws H) (he : ws[0]? = some (q 0, .inr (1, fs))) (k : Nat) (hk : k < 13) (hlink : Cond.fieldLink RX1 index RX1 (TX1 k).2.1 (TX1 k).2.2.1 ∈ Ts) {v : Value} (hv : fs[k]? = some v) (hsame : (TX1 k).1 = RX1) (hdg : decode cc pc = .ok (.getfield index, 3))
    (kk : W p l e R s m args below meth c H locs cells slots Q (F0 m (pc + 3) ls (v :: rest))) : W p l e R s m args below meth c H locs cells slots Q (F0 m pc ls (.ref (q 0) :: rest)) :=
  va_get (C := RX1) (T := TX1) (N := 13) (ci := 1) S.1 S.2.1 S.2.2.2.2 hin S.2.2.2.1 hK hP 0 he rfl k hk (S.2.2.2.2 _ hlink) (fun x h => by rw [hsame] at h; exact h) hv hdg kk
theorem w_putC {A : Nat → Prop} {H0 : Heap} {index : Nat} {ws : va_W} {fs : List Value} {tys : List (ClassId × FieldType)} (S : CallFix p m c cc nL s args Ts RX0) (hin : ∀ w ∈ wsX00, w ∈ Ts) (hK : va_K D cls2 tys s) (hP : va_P D cls2 ws H) (hD : va_D A ws) (hS : va_S A H0 H locs) (he : ws[0]? = some (q 0, .inr (0, fs))) (k : Nat) (hk : k < 11) (hlink : Cond.fieldLink RX0 index RX0 (TX0 k).2.1 (TX0 k).2.2.1 ∈ Ts) (hfin : (TX0 k).2.2.2 = false) {ty : FieldType} {v : Value} (hd : parseFieldDescriptor (TX0 k).2.2.1 = some ty) (hn : narrow ty v = v) (hfit : fits ty v = true) (hl : k < fs.length) (hsame : (TX0 k).1 = RX0) (hdg : decode cc pc = .ok (.putfield index, 3))
    (kk : ∀ (H1 : Heap) (locs1 : List Loc), va_P D cls2 (ws.set 0 (q 0, .inr (0, fs.set k v))) H1 → va_S A H0 H1 locs1 → W p l e R s m args below meth c H1 locs1 cells slots Q (F0 m (pc + 3) ls rest)) : W p l e R s m args below meth c H locs cells slots Q (F0 m pc ls (v :: .ref (q 0) :: rest)) :=
  va_put (C := RX0) (T := TX0) (N := 11) (ci := 0) S.1 S.2.1 S.2.2.2.2 hin tyX0 tyX0_ok nmX0 S.2.2.2.1 hK hP hD hS 0 he rfl k hk (S.2.2.2.2 _ hlink) (fun x h => by rw [hsame] at h; exact h) hfin hd hn hfit hl hdg (fun H1 l1 h1 _ h3 => kk H1 l1 h1 h3)
theorem w_putM {A : Nat → Prop} {H0 : Heap} {index : Nat} {ws : va_W} {fs : List Value} {tys : List (ClassId × FieldType)} (S : CallFix p m c cc nL s args Ts RX1) (hin : ∀ w ∈ wsX10, w ∈ Ts) (hK : va_K D cls2 tys s) (hP : va_P D cls2 ws H) (hD : va_D A ws) (hS : va_S A H0 H locs) (he : ws[0]? = some (q 0, .inr (1, fs))) (k : Nat) (hk : k < 13) (hlink : Cond.fieldLink RX1 index RX1 (TX1 k).2.1 (TX1 k).2.2.1 ∈ Ts) (hfin : (TX1 k).2.2.2 = false) {ty : FieldType} {v : Value} (hd : parseFieldDescriptor (TX1 k).2.2.1 = some ty) (hn : narrow ty v = v) (hfit : fits ty v = true) (hl : k < fs.length) (hsame : (TX1 k).1 = RX1) (hdg : decode cc pc = .ok (.putfield index, 3))
    (kk : ∀ (H1 : Heap) (locs1 : List Loc), va_P D cls2 (ws.set 0 (q 0, .inr (1, fs.set k v))) H1 → va_S A H0 H1 locs1 → W p l e R s m args below meth c H1 locs1 cells slots Q (F0 m (pc + 3) ls rest)) : W p l e R s m args below meth c H locs cells slots Q (F0 m pc ls (v :: .ref (q 0) :: rest)) :=
  va_put (C := RX1) (T := TX1) (N := 13) (ci := 1) S.1 S.2.1 S.2.2.2.2 hin tyX1 tyX1_ok nmX1 S.2.2.2.1 hK hP hD hS 0 he rfl k hk (S.2.2.2.2 _ hlink) (fun x h => by rw [hsame] at h; exact h) hfin hd hn hfit hl hdg (fun H1 l1 h1 _ h3 => kk H1 l1 h1 h3)
end MYC
