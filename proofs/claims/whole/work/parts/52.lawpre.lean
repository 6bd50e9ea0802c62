/-! the law's world: the component's cells, the two rows for answers, the reference's cells -/
abbrev aJ (cJ : ClassId) (f : Nat → Int64) : va_E := .inl (cJ, 1, .inr (.inl f))
abbrev oW (o o2 : Nat) (cJ cD : ClassId) (f1 : Nat → Int64) (f2 : Nat → UInt64) : va_W := [(o, aJ cJ f1), (o2, aD cD 1 f2)]
abbrev tys3 (cI cD cJ : ClassId) : List (ClassId × FieldType) := [(cI, .int), (cD, .double), (cJ, .long)]
def A12 (q : Nat → Nat) (o o2 : Nat) : Nat → Prop := fun x => qA q x ∨ x = o ∨ x = o2
def d12 (q : Nat → Nat) (o o2 : Nat) : Prop := qD q ∧ o ≠ o2 ∧ (∀ k : Nat, k < 10 → q k ≠ o) ∧ ∀ k : Nat, k < 10 → q k ≠ o2
theorem D12_of {q : Nat → Nat} {o o2 : Nat} (h : d12 q o o2) {w : va_W} (he : w.map (fun x => x.1) = [q 0, q 1, q 2, q 3, q 4, q 5, q 6, q 7, q 8, q 9, o, o2]) : va_D (A12 q o o2) w := by
  obtain ⟨hq, h1, h2, h3⟩ := h
  obtain ⟨f, hf⟩ : ∃ f : Nat → Nat, f = fun k => if k < 10 then q k else if k = 10 then o else o2 := ⟨_, rfl⟩
  have he' : w.map (fun x => x.1) = (List.range 12).map f := by rw [he, hf]; rfl
  have key : ∀ (k : Nat) (x : Nat × va_E), w[k]? = some x → k < 12 ∧ x.1 = f k := by
    intro k x hk
    have h1 : (w.map (fun x => x.1))[k]? = some x.1 := by rw [List.getElem?_map, hk]; rfl
    rw [he', List.getElem?_map] at h1
    by_cases h : k < 12
    · rw [List.getElem?_range h] at h1
      exact ⟨h, (Option.some.inj h1).symm⟩
    · rw [List.getElem?_eq_none (by rw [List.length_range]; omega)] at h1
      cases h1
  have inj : ∀ i j : Nat, i < 12 → j < 12 → f i = f j → i = j := by
    intro i j hi hj hij
    rw [hf] at hij
    simp only at hij
    by_cases a : i < 10 <;> by_cases b : j < 10
    · rw [if_pos a, if_pos b] at hij; exact hq i j a b hij
    · rw [if_pos a, if_neg b] at hij
      by_cases c : j = 10
      · rw [if_pos c] at hij; exact absurd hij (h2 i a)
      · rw [if_neg c] at hij; exact absurd hij (h3 i a)
    · rw [if_neg a, if_pos b] at hij
      by_cases c : i = 10
      · rw [if_pos c] at hij; exact absurd hij.symm (h2 j b)
      · rw [if_neg c] at hij; exact absurd hij.symm (h3 j b)
    · rw [if_neg a, if_neg b] at hij
      by_cases c : i = 10 <;> by_cases d : j = 10
      · omega
      · rw [if_pos c, if_neg d] at hij; exact absurd hij h1
      · rw [if_neg c, if_pos d] at hij; exact absurd hij.symm h1
      · omega
  refine ⟨fun i j x y hi hj hxy => ?_, fun k x hk => ?_⟩
  · obtain ⟨a1, a2⟩ := key i x hi
    obtain ⟨b1, b2⟩ := key j y hj
    exact inj i j a1 b1 (by rw [← a2, ← b2, hxy])
  · obtain ⟨a1, a2⟩ := key k x hk
    rw [a2, hf]
    show A12 q o o2 (if k < 10 then q k else if k = 10 then o else o2)
    by_cases a : k < 10
    · rw [if_pos a]; exact Or.inl ⟨k, a, rfl⟩
    · rw [if_neg a]
      by_cases b : k = 10
      · rw [if_pos b]; exact Or.inr (Or.inl rfl)
      · rw [if_neg b]; exact Or.inr (Or.inr rfl)
/-- behind a call: what the callee had is new, the rest is as it was -/
theorem glue {A0 A1 : Nat → Prop} {D : va_G} {cl : List vw_C} {w w1 w1' w2 : va_W} {H H1 : Heap} (hP : va_P D cl w H) (hD : va_D A0 w) (i1 i2 : List Nat) (h1 : i1.map (fun i => w[i]?) = w1.map some) (h2 : i2.map (fun i => w[i]?) = w2.map some) (hdis : ∀ i ∈ i2, i ∉ i1)
    (hA : ∀ x, A1 x → ∃ (k : Nat) (e : va_E), w1[k]? = some (x, e)) (hk : ∀ x : Nat, x < H.size → ¬ A1 x → H1[x]? = H[x]?) (hB : va_P D cl w1' H1) : va_P D cl (w1' ++ w2) H1 := by
  have at' : ∀ {is : List Nat} {w9 : va_W}, is.map (fun i => w[i]?) = w9.map some → ∀ (k : Nat) (x : Nat × va_E), w9[k]? = some x → ∃ i, is[k]? = some i ∧ w[i]? = some x := by
    intro is w9 hs k x hx
    have h3 : (is.map (fun i => w[i]?))[k]? = some (some x) := by rw [hs, List.getElem?_map, hx]; rfl
    rw [List.getElem?_map] at h3
    cases hi : is[k]? with
    | none => rw [hi] at h3; cases h3
    | some i => rw [hi] at h3; exact ⟨i, rfl, Option.some.inj h3⟩
  refine va_P.app hB (fun k x hx => ?_)
  obtain ⟨i, a1, a2⟩ := at' h2 k x hx
  refine (hP i x a2).kept (hk x.1 (hP i x a2).lt (fun hax => ?_))
  obtain ⟨k2, e, b1⟩ := hA x.1 hax
  obtain ⟨j, c1, c2⟩ := at' h1 k2 (x.1, e) b1
  have := hD.1 i j x (x.1, e) a2 c2 rfl
  subst this
  exact hdis i (List.mem_of_getElem? a1) (List.mem_of_getElem? c1)
theorem qA_in {q : Nat → Nat} {w : va_W} (he : w.map (fun x => x.1) = [q 0, q 1, q 2, q 3, q 4, q 5, q 6, q 7, q 8, q 9]) : ∀ x, qA q x → ∃ (k : Nat) (e : va_E), w[k]? = some (x, e) := by
  rintro x ⟨k, hk, rfl⟩
  have he' : w.map (fun x => x.1) = (List.range 10).map q := he
  have h1 : (w.map (fun x => x.1))[k]? = some (q k) := by rw [he', List.getElem?_map, List.getElem?_range hk]; rfl
  rw [List.getElem?_map] at h1
  cases h2 : w[k]? with
  | none => rw [h2] at h1; cases h1
  | some x => rw [h2] at h1; exact ⟨k, x.2, by rw [h2]; congr 1; rw [← Option.some.inj h1]⟩
theorem met_introW {l : Launch} {y : MethodName} {ws ws' : List Cond} {rm : Room} {Qc : Array Value → State → Outcome → State → Prop} {mc ms : Nat} {free : Addr → Prop} {cc : ByteArray} {maxL : Nat} {ret : Option FieldType} {hh : List (Nat × Nat × Nat × Nat)} {own : String} {vs : List Value} {B : State → Prop}
    (hy : plainName y.cls = true) (hw : ws = Cond.codeWith y cc maxL ret hh :: ws') (hcls : y.cls = own) (hlen : (lg_sl vs).length ≤ maxL)
    (body : ∀ p e s m args below meth c (Q : State → Prop) (ls : Array Slot), Q = MQ below Qc args s mc ms free → CallFix p m c cc maxL s args ws own → meth.sig.returnType = ret → meth.locks = false → c.exceptionTable.toList = tableOf hh → args = vs.toArray → B s → lv_has ls maxL (lv_args 0 vs) → W p l e rm s m args below meth c s.heap [] 0 0 Q (F0 m 0 ls [])) : Met l y ws rm (va_Pc vs B) Qc mc ms free := by
  refine MetFree.of_bodyS (code := cc) (maxLocals := maxL) (ret := ret) hy ?_ ?_
  · intro args s m h hn
    obtain ⟨m9, meth, c, hn9, h1, h2, h3, h4, -, h5, h6, -⟩ := Cond.codeWith_spec (atoms_spec (ws := ws) h _ (by rw [hw]; exact List.mem_cons_self))
    cases hn.symm.trans hn9
    exact ⟨meth, c, h1, h2, h3, h4, h5, h6⟩
  · intro p e s m args below meth c s₁ BB hml hP _
    obtain ⟨hv0, hB⟩ := hP
    have hh0 : s₁.heap = s.heap := by rw [BB.state]; rfl
    have hts := atoms_spec (ws := ws) BB.pre
    have hown : s.vm.findClass own = some m.cls := by rw [← hcls]; exact findClass_of_methodNamed BB.named
    have htab := vx_table (x := y) BB (hts _ (show Cond.codeWith y cc maxL ret hh ∈ ws by rw [hw]; exact List.mem_cons_self))
    have hl := lv_entry vs (n := maxL) hlen
    have key := body p e s m args below meth c _ _ rfl ⟨BB.exec, BB.bytes, hml, hown, hts⟩ BB.returns BB.notSynchronized htab hv0 hB hl
    have key2 : W p l e rm s m args below meth c s.heap [] 0 0 (MQ below Qc args s mc ms free) (entryFrame m args maxL) := by
      rw [hv0, lg_entry_eq]
      rw [hv0] at key
      exact key
    obtain ⟨t, a1, o, b1, b2, b3⟩ := key2 s₁ hh0 (Stand.of_body BB)
    exact ⟨t, o, a1, b1, b2, ⟨b3.1, b3.2⟩⟩
section MYL
variable {p : Program} {l : Launch} {e : Env} {R : Room} {s : State} {m : MethodId} {args : Array Value} {below : List Frame} {meth : Method} {c : Code} {H : Heap} {locs : List Loc} {cells slots : Nat} {Q : State → Prop}
variable {cc : ByteArray} {pc : Nat} {ls : Array Slot} {rest : List Value} {D : va_G} {cl : List vw_C} {A : Nat → Prop} {a : Nat} {tys : List (ClassId × FieldType)} {ws : va_W} {H0 : Heap}
theorem w_last (hexec : p.tables.exec = Jvm.exec) (hb : c.code = cc) (hK : va_K D cl tys s) (hP : va_P D cl ws H) (hD : va_D A ws) (hS : va_S A H0 H locs) (q0 t0 : Nat) {cA : ClassId} {n : Nat} {f : Nat → Int64} (ha : ws[q0]? = some (a, .inl (cA, n, .inr (.inl f)))) (ht : tys[t0]? = some (cA, .long)) {j : Nat} {x : Int64} (hj : j < n) (hn : n < 2 ^ 31) (hdg : decode cc pc = .ok (.lastore, 1))
    (kk : ∀ (H1 : Heap) (locs1 : List Loc), va_P D cl (ws.set q0 (a, .inl (cA, n, .inr (.inl (vp_updL f j x))))) H1 → va_S A H0 H1 locs1 → W p l e R s m args below meth c H1 locs1 cells slots Q (F0 m (pc + 1) ls rest)) : W p l e R s m args below meth c H locs cells slots Q (F0 m pc ls (.long x :: .int (nI j) :: .ref a :: rest)) :=
  va_last hexec hb hK hP hD hS q0 t0 ha ht (vp_in_nI hj hn) hdg (by rw [nI_clamp (Nat.lt_trans hj hn)]; exact fun H1 l1 h1 _ h3 => kk H1 l1 h1 h3)
theorem w_lald (hexec : p.tables.exec = Jvm.exec) (hb : c.code = cc) (hK : va_K D cl tys s) (hP : va_P D cl ws H) (q0 t0 : Nat) {cA : ClassId} {n : Nat} {f : Nat → Int64} (ha : ws[q0]? = some (a, .inl (cA, n, .inr (.inl f)))) (ht : tys[t0]? = some (cA, .long)) {j : Nat} {v : Int64} (hv : f j = v) (hj : j < n) (hn : n < 2 ^ 31) (hdg : decode cc pc = .ok (.laload, 1))
    (kk : W p l e R s m args below meth c H locs cells slots Q (F0 m (pc + 1) ls (.long v :: rest))) : W p l e R s m args below meth c H locs cells slots Q (F0 m pc ls (.int (nI j) :: .ref a :: rest)) :=
  va_lald hexec hb hK hP q0 t0 ha ht (vp_in_nI hj hn) hdg (by rw [nI_clamp (Nat.lt_trans hj hn), hv]; exact kk)
theorem o_last {w : va_W} {q : Nat → Nat} {o o2 : Nat} {cI cD cJ : ClassId} {f1 : Nat → Int64} {f2 : Nat → UInt64} (hexec : p.tables.exec = Jvm.exec) (hb : c.code = cc) (hK : va_K D cls2 (tys3 cI cD cJ) s) (hP : va_P D cls2 (w ++ oW o o2 cJ cD f1 f2) H) (hw : w.map (fun x => x.1) = [q 0, q 1, q 2, q 3, q 4, q 5, q 6, q 7, q 8, q 9]) (hd : d12 q o o2) (hS : va_S (A12 q o o2) H0 H locs) {x : Int64} (hdg : decode cc pc = .ok (.lastore, 1))
    (kk : ∀ (H1 : Heap) (locs1 : List Loc), va_P D cls2 (w ++ oW o o2 cJ cD (vp_updL f1 0 x) f2) H1 → va_S (A12 q o o2) H0 H1 locs1 → W p l e R s m args below meth c H1 locs1 cells slots Q (F0 m (pc + 1) ls rest)) : W p l e R s m args below meth c H locs cells slots Q (F0 m pc ls (.long x :: .int (nI 0) :: .ref o :: rest)) := by
  have hlen : w.length = 10 := by have h := congrArg List.length hw; rw [List.length_map] at h; exact h
  refine w_last hexec hb hK hP (D12_of hd (by rw [List.map_append, hw]; rfl)) hS 10 2 (cA := cJ) (n := 1) (f := f1) (by rw [List.getElem?_append_right (by omega), hlen]; rfl) rfl (j := 0) (x := x) (by decide) (by decide) hdg (fun H1 l1 h1 h2 => kk H1 l1 ?_ h2)
  rw [List.set_append_right _ _ (by omega), hlen] at h1
  exact h1
theorem o_dast {w : va_W} {q : Nat → Nat} {o o2 : Nat} {cI cD cJ : ClassId} {f1 : Nat → Int64} {f2 : Nat → UInt64} (hexec : p.tables.exec = Jvm.exec) (hb : c.code = cc) (hK : va_K D cls2 (tys3 cI cD cJ) s) (hP : va_P D cls2 (w ++ oW o o2 cJ cD f1 f2) H) (hw : w.map (fun x => x.1) = [q 0, q 1, q 2, q 3, q 4, q 5, q 6, q 7, q 8, q 9]) (hd : d12 q o o2) (hS : va_S (A12 q o o2) H0 H locs) {x : UInt64} (hdg : decode cc pc = .ok (.dastore, 1))
    (kk : ∀ (H1 : Heap) (locs1 : List Loc), va_P D cls2 (w ++ oW o o2 cJ cD f1 (vf_upd f2 0 x)) H1 → va_S (A12 q o o2) H0 H1 locs1 → W p l e R s m args below meth c H1 locs1 cells slots Q (F0 m (pc + 1) ls rest)) : W p l e R s m args below meth c H locs cells slots Q (F0 m pc ls (.double x :: .int (nI 0) :: .ref o2 :: rest)) := by
  have hlen : w.length = 10 := by have h := congrArg List.length hw; rw [List.length_map] at h; exact h
  refine w_dast hexec hb hK hP (D12_of hd (by rw [List.map_append, hw]; rfl)) hS 11 1 (cA := cD) (n := 1) (f := f2) (by rw [List.getElem?_append_right (by omega), hlen]; rfl) rfl (j := 0) (x := x) (by decide) (by decide) hdg (fun H1 l1 h1 _ h2 => kk H1 l1 ?_ h2)
  rw [List.set_append_right _ _ (by omega), hlen] at h1
  exact h1
end MYL
