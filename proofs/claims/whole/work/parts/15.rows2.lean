section MYR2
variable {p : Program} {l : Launch} {e : Env} {R : Room} {s : State} {m : MethodId} {args : Array Value} {below : List Frame} {meth : Method} {c : Code} {H : Heap} {locs : List Loc} {cells slots : Nat} {Q : State → Prop}
variable {cc : ByteArray} {pc : Nat} {ls : Array Slot} {rest : List Value}
/-- x > y: dcmpl, ifgt -/
theorem w_dgtT (hexec : p.tables.exec = Jvm.exec) (hb : c.code = cc) {x y : UInt64} {off : Int} {tgt : Nat} (hd1 : decode cc pc = .ok (.dcmp .l, 1)) (hd2 : decode cc (pc + 1) = .ok (.ifCond .gt off, 3)) (ht : ((pc + 1 : Nat) : Int) + off = (tgt : Int))
    (kt : dgt x y = true → W p l e R s m args below meth c H locs cells slots Q (F0 m tgt ls rest)) (kf : dgt x y = false → W p l e R s m args below meth c H locs cells slots Q (F0 m (pc + 4) ls rest)) : W p l e R s m args below meth c H locs cells slots Q (F0 m pc ls (.double y :: .double x :: rest)) := by
  refine lv_dcmp hexec hb hd1 ?_
  refine lv_if_gt hexec hb hd2 ht (fun h => kt ?_) (fun h => kf ?_)
  · unfold dgt; revert h; rcases FP.dcmp x y with _ | (_ | _ | _) <;> decide
  · unfold dgt; revert h; rcases FP.dcmp x y with _ | (_ | _ | _) <;> decide
end MYR2
def shr (n : Nat) (e : Nat → Nat → UInt64) (i k : Nat) : UInt64 := if dgt (rowS e n i) FP.dconst0 = true then FP.ddiv (e i k) (rowS e n i) else FP.dconst0
section MYR3
variable {p : Program} {l : Launch} {e : Env} {R : Room} {s : State} {m : MethodId} {args : Array Value} {below : List Frame} {meth : Method} {c : Code} {H : Heap} {locs : List Loc} {cells slots : Nat} {Q : State → Prop}
variable {cc : ByteArray} {pc : Nat} {ls : Array Slot} {rest : List Value}
/-- a weight greater than 0 -/
theorem w_ifW {w : Nat → Nat → Int32} (i j : Nat) (hexec : p.tables.exec = Jvm.exec) (hb : c.code = cc) {off : Int} {tgt : Nat} (hdg : decode cc pc = .ok (.ifCond .le off, 3)) (ht : (pc : Int) + off = (tgt : Int))
    (kt : opn w i j = false → W p l e R s m args below meth c H locs cells slots Q (F0 m tgt ls rest)) (kf : opn w i j = true → W p l e R s m args below meth c H locs cells slots Q (F0 m (pc + 3) ls rest)) : W p l e R s m args below meth c H locs cells slots Q (F0 m pc ls (.int (w i j) :: rest)) :=
  lv_if_le hexec hb hdg ht (fun h => kt (decide_eq_false (Int32.not_lt.mpr h))) (fun h => kf (decide_eq_true (Int32.not_le.mp h)))
/-- an answer of 0 or 1, compared with 1 -/
theorem w_icmpB (hexec : p.tables.exec = Jvm.exec) (hb : c.code = cc) {x : Bool} {off : Int} {tgt : Nat} (hdg : decode cc pc = .ok (.if_icmp .ne off, 3)) (ht : (pc : Int) + off = (tgt : Int))
    (kt : x = false → W p l e R s m args below meth c H locs cells slots Q (F0 m tgt ls rest)) (kf : x = true → W p l e R s m args below meth c H locs cells slots Q (F0 m (pc + 3) ls rest)) : W p l e R s m args below meth c H locs cells slots Q (F0 m pc ls (.int (nI 1) :: .int (bI x) :: rest)) :=
  lv_icmp_ne hexec hb hdg ht (fun h => kt (by cases x; rfl; exact absurd rfl h)) (fun h => kf (by cases x; exact absurd h (by decide); rfl))
end MYR3
theorem nI_shrbit {s a : Nat} (hs : s < 64) (ha : a < 6) : (nI s >>> (nI a &&& 31)) &&& nI 1 = bI (s.testBit a) := by
  have h2 : ∀ s : Fin 64, ∀ a : Fin 6, (nI s.1 >>> (nI a.1 &&& 31)) &&& nI 1 = bI (s.1.testBit a.1) := by decide +kernel
  exact h2 ⟨s, hs⟩ ⟨a, ha⟩
theorem nI_low {s i : Nat} (hs : s < 64) (hi : i < 6) : ((nI s >>> (nI (i + 1) &&& 31)) <<< (nI (i + 1) &&& 31) = nI s) ↔ s % 2 ^ (i + 1) = 0 := by
  have h2 : ∀ s : Fin 64, ∀ i : Fin 6, ((nI s.1 >>> (nI (i.1 + 1) &&& 31)) <<< (nI (i.1 + 1) &&& 31) = nI s.1) ↔ s.1 % 2 ^ (i.1 + 1) = 0 := by decide +kernel
  exact h2 ⟨s, hs⟩ ⟨i, hi⟩
theorem upd2_self {α : Type} (f : Nat → Nat → α) (i j : Nat) (v : α) : upd2 f i j v i j = v := if_pos ⟨rfl, rfl⟩
theorem upd_self (f : Nat → Int32) (i : Nat) (v : Int32) : upd f i v i = v := if_pos rfl
def wth (v a b : Int32) : Bool := if v < a then false else if b < v then false else true
def armB (n : Nat) (x : Int32) : Bool := wth x (nI 0) (nI n - nI 1)
theorem nI_sub1 {n : Nat} (h : 1 ≤ n) : nI n - nI 1 = nI (n - 1) := by
  obtain ⟨k, rfl⟩ : ∃ k, n = k + 1 := ⟨n - 1, by omega⟩
  exact nI_pred k
theorem armB_t {n i : Nat} (hn : 3 ≤ n ∧ n ≤ 6) (hi : i < n) : armB n (nI i) = true := by
  unfold armB wth
  rw [nI_sub1 (by omega), if_neg (nI_nlt (by omega) (by omega)), if_neg (nI_nlt (by omega) (by omega))]
-- the reference's own loops
def lwR (fw : Nat → Int32) (k : Nat) (f : Nat → UInt64) : Nat → UInt64 := itN (fun j f => vf_upd f j (FP.i2d (fw j))) k f
theorem lwR_at (fw : Nat → Int32) (f : Nat → UInt64) (a : Nat) : ∀ k : Nat, lwR fw k f a = if a < k then FP.i2d (fw a) else f a := by
  intro k
  induction k with
  | zero => rw [if_neg (by omega)]; rfl
  | succ k ih =>
    show vf_upd (lwR fw k f) k (FP.i2d (fw k)) a = _
    unfold vf_upd
    by_cases h : a = k
    · rw [if_pos h, if_pos (by omega), h]
    · rw [if_neg h, ih]
      by_cases h2 : a < k
      · rw [if_pos h2, if_pos (by omega)]
      · rw [if_neg h2, if_neg (by omega)]
theorem lwR_ag {n : Nat} (hn : n ≤ 6) {fw : Nat → Int32} {fe : Nat → UInt64} {w : Nat → Nat → Int32} (hW : ag2 n fw w) : ag2 n (lwR fw 36 fe) (lay w) := fun i j hi hj => by
  rw [lwR_at, if_pos (by omega), hW i j hi hj]; rfl
def dgR (j : Nat) : Int32 := if nI j / nI 6 = nI j - nI j / nI 6 * nI 6 then nI 0 else nI 1
def bgR (k : Nat) (f : Nat → Int32) : Nat → Int32 := itN (fun j f => upd f j (dgR j)) k f
theorem bgR_at (f : Nat → Int32) (a : Nat) : ∀ k : Nat, bgR k f a = if a < k then dgR a else f a := by
  intro k
  induction k with
  | zero => rw [if_neg (by omega)]; rfl
  | succ k ih =>
    show upd (bgR k f) k (dgR k) a = _
    unfold upd
    by_cases h : a = k
    · rw [if_pos h, if_pos (by omega), h]
    · rw [if_neg h, ih]
      by_cases h2 : a < k
      · rw [if_pos h2, if_pos (by omega)]
      · rw [if_neg h2, if_neg (by omega)]
theorem dgR_at : ∀ i j : Fin 6, dgR (6 * i.1 + j.1) = w0 i.1 j.1 := by decide +kernel
theorem bgR_ag {n : Nat} (hn : n ≤ 6) {f : Nat → Int32} : ag2 n (bgR 36 f) w0 := fun i j hi hj => by
  rw [bgR_at, if_pos (by omega)]; exact dgR_at ⟨i, by omega⟩ ⟨j, by omega⟩
theorem zr_raw {n : Nat} (hn : n ≤ 6) {f : Nat → Int32} : ag1 n (zrO 6 f) (fun _ => nI 0) := fun j hj => by rw [zrO_at, if_pos (by omega)]
def slB (inf out : Nat → Int32) (p : Int32) (k : Nat) : Bool := itN (fun a b => b && (!decide (nI 9999 < scl (inf a) p) && !decide (nI 9999 < scl (out a) p))) k true
def difS (inf out : Nat → Int32) (k : Nat) : Int32 := itN (fun a s => s + (inf a - out a)) k (nI 0)
theorem difS_eq (inf out : Nat → Int32) : ∀ k : Nat, difS inf out k = sumI inf k - sumI out k := by
  intro k
  induction k with
  | zero => exact (show nI 0 = nI 0 - nI 0 by decide +kernel)
  | succ k ih =>
    show difS inf out k + (inf k - out k) = (sumI inf k + inf k) - (sumI out k + out k)
    rw [ih]
    grind
def far (x y : UInt64) : UInt64 := if dgt x y = true then FP.dsub x y else FP.dsub y x
theorem vfu_self (f : Nat → UInt64) (i : Nat) (v : UInt64) : vf_upd f i v i = v := if_pos rfl
theorem wth_nat {v a b : Nat} (h1 : a ≤ v) (h2 : v ≤ b) (hb : b < 2 ^ 31) : wth (nI v) (nI a) (nI b) = true := by
  unfold wth
  rw [if_neg (nI_nlt h1 (by omega)), if_neg (nI_nlt h2 (by omega))]
theorem sub_nI0 (x : Int32) : x - nI 0 = x := Int32.sub_zero x
def mscS (inf : Nat → Int32) (x : Int32) (k : Nat) : Int32 := itN (fun a s => s + scl (scO x a inf a) x) k (nI 0)
def frP (x y : UInt64) : Prop := vf_n64 (FP.dsub x y) ∧ vf_n64 (FP.dsub y x) ∧ far x y = dist x y
def okF (n : Nat) (inf out : Nat → Int32) (e : Nat → Nat → UInt64) : Prop := ∀ k : Nat, k < n → okR e n k ∧ okC e n k ∧ frP (rowS e n k) (FP.i2d (inf k)) ∧ frP (colS e n k) (FP.i2d (out k))
