/-! my own rows: rows of the kit with Nat indices, boolean tests, double comparisons -/
def bI (b : Bool) : Int32 := if b = true then 1 else 0
theorem bI_t : bI true = 1 := rfl
theorem bI_f : bI false = 0 := rfl
def dgt (x y : UInt64) : Bool := FP.dcmp x y == some .gt
def dlt (x y : UInt64) : Bool := FP.dcmp x y == some .lt
def dge (x y : UInt64) : Bool := FP.dcmp x y == some .gt || FP.dcmp x y == some .eq
def deq (x y : UInt64) : Bool := FP.dcmp x y == some .eq
def ag1 {α : Type} (n : Nat) (f g : Nat → α) : Prop := ∀ j : Nat, j < n → f j = g j
def ag2 {α : Type} (n : Nat) (f : Nat → α) (g : Nat → Nat → α) : Prop := ∀ i j : Nat, i < n → j < n → f (6 * i + j) = g i j
def upd2 {α : Type} (f : Nat → Nat → α) (i j : Nat) (v : α) : Nat → Nat → α := fun a b => if a = i ∧ b = j then v else f a b
theorem nI_mul6 (i : Nat) : nI i * 6 = nI (6 * i) := by
  rw [Nat.mul_comm]; exact (Int32.ofNat_mul i 6).symm
theorem nI_6mul (i : Nat) : 6 * nI i = nI (6 * i) := (Int32.ofNat_mul 6 i).symm
theorem nI_10mul (i : Nat) : 10 * nI i = nI (10 * i) := (Int32.ofNat_mul 10 i).symm
theorem ag2_upd {n : Nat} {f : Nat → Int32} {g : Nat → Nat → Int32} (h : ag2 n f g) (hn : n ≤ 6) {i j : Nat} (hj : j < n) (v : Int32) : ag2 n (upd f (6 * i + j) v) (upd2 g i j v) := by
  intro a b ha hb
  unfold upd upd2
  by_cases hab : a = i ∧ b = j
  · rw [if_pos hab, if_pos (by omega)]
  · rw [if_neg hab, if_neg (by omega)]
    exact h a b ha hb
theorem ag2_updD {n : Nat} {f : Nat → UInt64} {g : Nat → Nat → UInt64} (h : ag2 n f g) (hn : n ≤ 6) {i j : Nat} (hj : j < n) (v : UInt64) : ag2 n (vf_upd f (6 * i + j) v) (upd2 g i j v) := by
  intro a b ha hb
  unfold vf_upd upd2
  by_cases hab : a = i ∧ b = j
  · rw [if_pos hab, if_pos (by omega)]
  · rw [if_neg hab, if_neg (by omega)]
    exact h a b ha hb
theorem ag1_upd {n : Nat} {f g : Nat → Int32} (h : ag1 n f g) (i : Nat) (v : Int32) : ag1 n (upd f i v) (upd g i v) := by
  intro a ha
  unfold upd
  by_cases hab : a = i
  · rw [if_pos hab, if_pos hab]
  · rw [if_neg hab, if_neg hab]
    exact h a ha
/-- the same addresses: what was apart is apart -/
theorem va_D.same {A : Nat → Prop} {w w' : va_W} (h : va_D A w) (he : w'.map (fun q => q.1) = w.map (fun q => q.1)) : va_D A w' := by
  have key : ∀ (k : Nat) (q : Nat × va_E), w'[k]? = some q → ∃ q0, w[k]? = some q0 ∧ q0.1 = q.1 := by
    intro k q hk
    have h1 : (w'.map (fun q => q.1))[k]? = some q.1 := by rw [List.getElem?_map, hk]; rfl
    rw [he, List.getElem?_map] at h1
    cases h2 : w[k]? with
    | none => rw [h2] at h1; cases h1
    | some q0 => rw [h2] at h1; exact ⟨q0, rfl, Option.some.inj h1⟩
  refine ⟨fun i j x y hi hj hxy => ?_, fun k q hk => ?_⟩
  · obtain ⟨x0, h1, h2⟩ := key i x hi
    obtain ⟨y0, h3, h4⟩ := key j y hj
    exact h.1 i j x0 y0 h1 h3 (h2.trans (hxy.trans h4.symm))
  · obtain ⟨q0, h1, h2⟩ := key k q hk
    rw [← h2]
    exact h.2 k q0 h1
section MYR
variable {p : Program} {l : Launch} {e : Env} {R : Room} {s : State} {m : MethodId} {args : Array Value} {below : List Frame} {meth : Method} {c : Code} {H : Heap} {locs : List Loc} {cells slots : Nat} {Q : State → Prop}
variable {cc : ByteArray} {pc : Nat} {ls : Array Slot} {rest : List Value} {D : va_G} {cl : List vw_C} {A : Nat → Prop} {a : Nat} {tys : List (ClassId × FieldType)} {ws : va_W} {H0 : Heap}
theorem w_iadd (hexec : p.tables.exec = Jvm.exec) (hb : c.code = cc) {x y : Nat} (hdg : decode cc pc = .ok (.iadd, 1)) (k : W p l e R s m args below meth c H locs cells slots Q (F0 m (pc + 1) ls (.int (nI (x + y)) :: rest))) : W p l e R s m args below meth c H locs cells slots Q (F0 m pc ls (.int (nI y) :: .int (nI x) :: rest)) :=
  lv_iadd hexec hb hdg (by rw [nI_add]; exact k)
theorem w_imulL {N x y : Nat} {v : Int32} (hexec : p.tables.exec = Jvm.exec) (hb : c.code = cc) (hv : v = nI N) (hdg : decode cc pc = .ok (.imul, 1)) (k : W p l e R s m args below meth c H locs cells slots Q (F0 m (pc + 1) ls (.int (nI (N * x)) :: rest))) : W p l e R s m args below meth c H locs cells slots Q (F0 m pc ls (.int (nI x) :: .int v :: rest)) :=
  lv_imul hexec hb hdg (by rw [hv, show nI N * nI x = nI (N * x) from (Int32.ofNat_mul N x).symm]; exact k)
theorem w_imulR {N x : Nat} {v : Int32} (hexec : p.tables.exec = Jvm.exec) (hb : c.code = cc) (hv : v = nI N) (hdg : decode cc pc = .ok (.imul, 1)) (k : W p l e R s m args below meth c H locs cells slots Q (F0 m (pc + 1) ls (.int (nI (N * x)) :: rest))) : W p l e R s m args below meth c H locs cells slots Q (F0 m pc ls (.int v :: .int (nI x) :: rest)) :=
  lv_imul hexec hb hdg (by rw [hv, show nI x * nI N = nI (N * x) from by rw [Nat.mul_comm]; exact (Int32.ofNat_mul x N).symm]; exact k)
theorem w_iald (hexec : p.tables.exec = Jvm.exec) (hb : c.code = cc) (hK : va_K D cl tys s) (hP : va_P D cl ws H) (q0 t0 : Nat) {cA : ClassId} {n : Nat} {f : Nat → Int32} (ha : ws[q0]? = some (a, .inl (cA, n, .inl f))) (ht : tys[t0]? = some (cA, .int)) {j : Nat} {v : Int32} (hv : f j = v) (hj : j < n) (hn : n < 2 ^ 31) (hdg : decode cc pc = .ok (.iaload, 1))
    (kk : W p l e R s m args below meth c H locs cells slots Q (F0 m (pc + 1) ls (.int v :: rest))) : W p l e R s m args below meth c H locs cells slots Q (F0 m pc ls (.int (nI j) :: .ref a :: rest)) :=
  va_iald hexec hb hK hP q0 t0 ha ht (vp_in_nI hj hn) hdg (by rw [nI_clamp (Nat.lt_trans hj hn), hv]; exact kk)
theorem w_dald (hexec : p.tables.exec = Jvm.exec) (hb : c.code = cc) (hK : va_K D cl tys s) (hP : va_P D cl ws H) (q0 t0 : Nat) {cA : ClassId} {n : Nat} {f : Nat → UInt64} (ha : ws[q0]? = some (a, .inl (cA, n, .inr (.inr (.inr (.inl f)))))) (ht : tys[t0]? = some (cA, .double)) {j : Nat} {v : UInt64} (hv : f j = v) (hj : j < n) (hn : n < 2 ^ 31) (hdg : decode cc pc = .ok (.daload, 1))
    (kk : W p l e R s m args below meth c H locs cells slots Q (F0 m (pc + 1) ls (.double v :: rest))) : W p l e R s m args below meth c H locs cells slots Q (F0 m pc ls (.int (nI j) :: .ref a :: rest)) :=
  va_dald hexec hb hK hP q0 t0 ha ht (vp_in_nI hj hn) hdg (by rw [nI_clamp (Nat.lt_trans hj hn), hv]; exact kk)
theorem w_iast (hexec : p.tables.exec = Jvm.exec) (hb : c.code = cc) (hK : va_K D cl tys s) (hP : va_P D cl ws H) (hD : va_D A ws) (hS : va_S A H0 H locs) (q0 t0 : Nat) {cA : ClassId} {n : Nat} {f : Nat → Int32} (ha : ws[q0]? = some (a, .inl (cA, n, .inl f))) (ht : tys[t0]? = some (cA, .int)) {j : Nat} {x : Int32} (hj : j < n) (hn : n < 2 ^ 31) (hdg : decode cc pc = .ok (.iastore, 1))
    (kk : ∀ (H1 : Heap) (locs1 : List Loc), va_P D cl (ws.set q0 (a, .inl (cA, n, .inl (upd f j x)))) H1 → va_D A (ws.set q0 (a, .inl (cA, n, .inl (upd f j x)))) → va_S A H0 H1 locs1 → W p l e R s m args below meth c H1 locs1 cells slots Q (F0 m (pc + 1) ls rest)) : W p l e R s m args below meth c H locs cells slots Q (F0 m pc ls (.int x :: .int (nI j) :: .ref a :: rest)) :=
  va_iast hexec hb hK hP hD hS q0 t0 ha ht (vp_in_nI hj hn) hdg (by rw [nI_clamp (Nat.lt_trans hj hn)]; exact kk)
theorem w_dast (hexec : p.tables.exec = Jvm.exec) (hb : c.code = cc) (hK : va_K D cl tys s) (hP : va_P D cl ws H) (hD : va_D A ws) (hS : va_S A H0 H locs) (q0 t0 : Nat) {cA : ClassId} {n : Nat} {f : Nat → UInt64} (ha : ws[q0]? = some (a, .inl (cA, n, .inr (.inr (.inr (.inl f)))))) (ht : tys[t0]? = some (cA, .double)) {j : Nat} {x : UInt64} (hj : j < n) (hn : n < 2 ^ 31) (hdg : decode cc pc = .ok (.dastore, 1))
    (kk : ∀ (H1 : Heap) (locs1 : List Loc), va_P D cl (ws.set q0 (a, .inl (cA, n, .inr (.inr (.inr (.inl (vf_upd f j x))))))) H1 → va_D A (ws.set q0 (a, .inl (cA, n, .inr (.inr (.inr (.inl (vf_upd f j x))))))) → va_S A H0 H1 locs1 → W p l e R s m args below meth c H1 locs1 cells slots Q (F0 m (pc + 1) ls rest)) : W p l e R s m args below meth c H locs cells slots Q (F0 m pc ls (.double x :: .int (nI j) :: .ref a :: rest)) :=
  va_dast hexec hb hK hP hD hS q0 t0 ha ht (vp_in_nI hj hn) hdg (by rw [nI_clamp (Nat.lt_trans hj hn)]; exact kk)
/-- tests of an answer that is 0 or 1 -/
theorem w_ifBeq (hexec : p.tables.exec = Jvm.exec) (hb : c.code = cc) {x : Bool} {off : Int} {tgt : Nat} (hdg : decode cc pc = .ok (.ifCond .eq off, 3)) (ht : (pc : Int) + off = (tgt : Int))
    (kt : x = false → W p l e R s m args below meth c H locs cells slots Q (F0 m tgt ls rest)) (kf : x = true → W p l e R s m args below meth c H locs cells slots Q (F0 m (pc + 3) ls rest)) : W p l e R s m args below meth c H locs cells slots Q (F0 m pc ls (.int (bI x) :: rest)) :=
  lv_if_eq hexec hb hdg ht (fun h => kt (by cases x; rfl; exact absurd h (by decide))) (fun h => kf (by cases x; exact absurd rfl h; rfl))
theorem w_ifBne (hexec : p.tables.exec = Jvm.exec) (hb : c.code = cc) {x : Bool} {off : Int} {tgt : Nat} (hdg : decode cc pc = .ok (.ifCond .ne off, 3)) (ht : (pc : Int) + off = (tgt : Int))
    (kt : x = true → W p l e R s m args below meth c H locs cells slots Q (F0 m tgt ls rest)) (kf : x = false → W p l e R s m args below meth c H locs cells slots Q (F0 m (pc + 3) ls rest)) : W p l e R s m args below meth c H locs cells slots Q (F0 m pc ls (.int (bI x) :: rest)) :=
  lv_if_ne hexec hb hdg ht (fun h => kt (by cases x; exact absurd rfl h; rfl)) (fun h => kf (by cases x; rfl; exact absurd h (by decide)))
/-- x > y: dcmpl, ifle -/
theorem w_dgt (hexec : p.tables.exec = Jvm.exec) (hb : c.code = cc) {x y : UInt64} {off : Int} {tgt : Nat} (hd1 : decode cc pc = .ok (.dcmp .l, 1)) (hd2 : decode cc (pc + 1) = .ok (.ifCond .le off, 3)) (ht : ((pc + 1 : Nat) : Int) + off = (tgt : Int))
    (kt : dgt x y = false → W p l e R s m args below meth c H locs cells slots Q (F0 m tgt ls rest)) (kf : dgt x y = true → W p l e R s m args below meth c H locs cells slots Q (F0 m (pc + 4) ls rest)) : W p l e R s m args below meth c H locs cells slots Q (F0 m pc ls (.double y :: .double x :: rest)) := by
  refine lv_dcmp hexec hb hd1 ?_
  refine lv_if_le hexec hb hd2 ht (fun h => kt ?_) (fun h => kf ?_)
  · unfold dgt; revert h; rcases FP.dcmp x y with _ | (_ | _ | _) <;> decide
  · unfold dgt; revert h; rcases FP.dcmp x y with _ | (_ | _ | _) <;> decide
/-- x < y: dcmpg, ifge -/
theorem w_dlt (hexec : p.tables.exec = Jvm.exec) (hb : c.code = cc) {x y : UInt64} {off : Int} {tgt : Nat} (hd1 : decode cc pc = .ok (.dcmp .g, 1)) (hd2 : decode cc (pc + 1) = .ok (.ifCond .ge off, 3)) (ht : ((pc + 1 : Nat) : Int) + off = (tgt : Int))
    (kt : dlt x y = false → W p l e R s m args below meth c H locs cells slots Q (F0 m tgt ls rest)) (kf : dlt x y = true → W p l e R s m args below meth c H locs cells slots Q (F0 m (pc + 4) ls rest)) : W p l e R s m args below meth c H locs cells slots Q (F0 m pc ls (.double y :: .double x :: rest)) := by
  refine lv_dcmp hexec hb hd1 ?_
  refine lv_if_ge hexec hb hd2 ht (fun h => kt ?_) (fun h => kf ?_)
  · unfold dlt; revert h; rcases FP.dcmp x y with _ | (_ | _ | _) <;> decide
  · unfold dlt; revert h; rcases FP.dcmp x y with _ | (_ | _ | _) <;> decide
/-- x >= y: dcmpl, iflt -/
theorem w_dge (hexec : p.tables.exec = Jvm.exec) (hb : c.code = cc) {x y : UInt64} {off : Int} {tgt : Nat} (hd1 : decode cc pc = .ok (.dcmp .l, 1)) (hd2 : decode cc (pc + 1) = .ok (.ifCond .lt off, 3)) (ht : ((pc + 1 : Nat) : Int) + off = (tgt : Int))
    (kt : dge x y = false → W p l e R s m args below meth c H locs cells slots Q (F0 m tgt ls rest)) (kf : dge x y = true → W p l e R s m args below meth c H locs cells slots Q (F0 m (pc + 4) ls rest)) : W p l e R s m args below meth c H locs cells slots Q (F0 m pc ls (.double y :: .double x :: rest)) := by
  refine lv_dcmp hexec hb hd1 ?_
  refine lv_if_lt hexec hb hd2 ht (fun h => kt ?_) (fun h => kf ?_)
  · unfold dge; revert h; rcases FP.dcmp x y with _ | (_ | _ | _) <;> decide
  · unfold dge; revert h; rcases FP.dcmp x y with _ | (_ | _ | _) <;> decide
end MYR
