/-! the law: its state, and what one step of its script owes -/
theorem keepA {A B : Nat → Prop} {D : va_G} {cl : List vw_C} {w : va_W} {H H1 : Heap} (hP : va_P D cl w H) (hD : va_D A w) (hdis : ∀ x, A x → ¬ B x) (hk : ∀ x : Nat, x < H.size → ¬ B x → H1[x]? = H[x]?) : va_P D cl w H1 :=
  fun k x hx => (hP k x hx).kept (hk _ (hP k x hx).lt (hdis _ (hD.2 k x hx)))
def LD (q q' : Nat → Nat) (o o2 : Nat) : Prop := d12 q o o2 ∧ qD q' ∧ ∀ x, qA q' x → ¬ A12 q o o2 x
def OKs (n : Nat) (inf out : Nat → Int32) (w : Nat → Nat → Int32) (e : Nat → Nat → UInt64) : Prop := (3 ≤ n ∧ n ≤ 6) ∧ BD n inf ∧ BD n out ∧ BW n w ∧ GE n inf out e
def LX (D : va_G) (q : Nat → Nat) (o o2 : Nat) (cI cD cJ : ClassId) (n : Nat) (rC : Int32) (inf out : Nat → Int32) (w : Nat → Nat → Int32) (e : Nat → Nat → UInt64) (H : Heap) : Prop :=
  ∃ (fi fo fw : Nat → Int32) (fe : Nat → UInt64) (ft fr fp fl : Nat → Int32) (ff : Nat → UInt64) (f1 : Nat → Int64) (f2 : Nat → UInt64), va_P D cls2 (cW q cI cD (nI n) rC fi fo fw fe ft fr fp fl ff ++ oW o o2 cJ cD f1 f2) H ∧ ag1 n fi inf ∧ ag1 n fo out ∧ ag2 n fw w ∧ ag2 n fe e ∧ ∃ T : Nat → Nat, (∀ j : Nat, j < 6 → ft j = nI (T j) ∧ T j < 64) ∧ ∀ i j : Nat, i < n → j < n → (T i).testBit j = opn w i j
def LM (D : va_G) (q : Nat → Nat) (cI cD : ClassId) (n : Nat) (rC : Int32) (inf out : Nat → Int32) (w : Nat → Nat → Int32) (e : Nat → Nat → UInt64) (H : Heap) : Prop :=
  ∃ (th : Int32) (hh : Int64) (gi go gw : Nat → Int32) (ge : Nat → UInt64) (gr : Nat → Int32) (gf : Nat → UInt64) (gp gl gc : Nat → Int32), va_P D cls2 (mW q cI cD th (nI n) rC hh gi go gw ge gr gf gp gl gc) H ∧ ag1 n gi inf ∧ ag1 n go out ∧ ag2 n gw w ∧ ag2 n ge e
def LCx (p : Program) (l : Launch) (s : State) (m : MethodId) (meth : Method) (c : Code) (b L : Nat) (xs : Nat → Int32) (D : va_G) (q q' : Nat → Nat) (o o2 : Nat) (cI cD cJ : ClassId) (sa : Nat → Nat) : Prop :=
  CallFix p m c cL_law 10 s #[Value.ref b] wsL_law RL ∧ (meth.sig.returnType = ret ∧ meth.locks = false) ∧ va_K D cls2 (tys3 cI cD cJ) s ∧ LD q q' o o2 ∧ (va_X b L xs s s.heap ∧ b < s.heap.size ∧ L ≤ 2560) ∧ (∀ x, A12 q o o2 x → s.heap.size ≤ x) ∧ (∀ x, qA q' x → s.heap.size ≤ x) ∧ xG sa s s.heap ∧ l.stackTraces = false
abbrev lvL (q q' : Nat → Nat) (b o o2 i : Nat) : List (Nat × Value) := [(0, .ref b), (1, .ref (q 0)), (2, .ref (q' 0)), (3, .ref o), (4, .ref o2), (5, .int (nI i))]
def LK (p : Program) (l : Launch) (e9 : Env) (s : State) (m : MethodId) (below : List Frame) (meth : Method) (c : Code) (b : Nat) (D : va_G) (q q' : Nat → Nat) (o o2 : Nat) (cI cD cJ : ClassId) (i cells slots : Nat) (Q : State → Prop) : Prop :=
  ∀ (n : Nat) (rC : Int32) (inf out : Nat → Int32) (w : Nat → Nat → Int32) (e : Nat → Nat → UInt64) (H : Heap) (locs : List Loc) (ls : Array Slot), OKs n inf out w e → LX D q o o2 cI cD cJ n rC inf out w e H → LM D q' cI cD n rC inf out w e H → va_S (fun x : Nat => s.heap.size ≤ x) s.heap H locs → lv_has ls 10 (lvL q q' b o o2 i) → W p l e9 room_1 s m #[Value.ref b] below meth c H locs (cells + 1) (slots + 6) Q (F0 m 1355 ls [])
section LROW
variable {p : Program} {l : Launch} {e : Env} {R : Room} {s : State} {m : MethodId} {args : Array Value} {below : List Frame} {meth : Method} {c : Code} {H : Heap} {locs : List Loc} {cells slots : Nat} {Q : State → Prop}
variable {cc : ByteArray} {pc : Nat} {ls : Array Slot} {rest : List Value}
theorem w_lcmp0 (hexec : p.tables.exec = Jvm.exec) (hb : c.code = cc) {x : Int64} (hdg : decode cc pc = .ok (.lcmp, 1)) (k : W p l e R s m args below meth c H locs cells slots Q (F0 m (pc + 1) ls (.int (nI 0) :: rest))) : W p l e R s m args below meth c H locs cells slots Q (F0 m pc ls (.long x :: .long x :: rest)) := by
  intro T hT X
  obtain ⟨t, a, b⟩ := k T hT X
  refine ⟨t, ?_, b⟩
  have h1 : ¬ x > x := fun h => Int64.lt_irrefl h
  jvm_step X.here [X.here.top, hexec, hb, hdg, h1]
  exact a
theorem dcmp_same {x : UInt64} (h : vf_n64 x) (op : CmpOp) : Op.cmpValue (FP.dcmp x x) op = nI 0 := by
  have h1 : FP.Core.val64 x ≠ .nan := by
    rw [FP.Core.ne_nan]
    have h2 := h
    unfold vf_n64 at h2
    rw [UInt64.le_iff_toNat_le, FP.Core.mask_toNat] at h2
    exact h2
  rw [show FP.dcmp x x = some .eq from FP.Core.dcmp_self h1]
  cases op <;> rfl
theorem w_scr (hexec : p.tables.exec = Jvm.exec) (hb : c.code = cc) {b L : Nat} {xs : Nat → Int32} (hX : va_X b L xs s s.heap) (hbl : b < s.heap.size) (hS : va_S (fun x : Nat => s.heap.size ≤ x) s.heap H locs) {k : Nat} {v : Int32} (hv : xs k = v) (hk : k < L) (hL : L ≤ 2560) (hdg : decode cc pc = .ok (.iaload, 1))
    (kk : W p l e R s m args below meth c H locs cells slots Q (F0 m (pc + 1) ls (.int v :: rest))) : W p l e R s m args below meth c H locs cells slots Q (F0 m pc ls (.int (nI k) :: .ref b :: rest)) :=
  va_sld hexec hb hX hbl (Nat.not_le_of_lt hbl) hS (vp_in_nI hk (by omega)) hdg (by rw [nI_clamp (by omega), hv]; exact kk)
end LROW
theorem bit_upd {T T9 : Nat → Nat} {w : Nat → Nat → Int32} {n i0 k0 : Nat} {x : Int32} (hn : n ≤ 6) (h8 : ∀ a b : Nat, b < 6 → (T9 a).testBit b = if a = i0 ∧ b = k0 then decide (0 < x) else (T a).testBit b) (h2 : ∀ i j : Nat, i < n → j < n → (T i).testBit j = opn w i j) : ∀ a b : Nat, a < n → b < n → (T9 a).testBit b = opn (upd2 w i0 k0 x) a b := by
  intro a b ha hb
  rw [h8 a b (by omega)]
  unfold opn upd2
  by_cases hz : a = i0 ∧ b = k0
  · rw [if_pos hz, if_pos hz]
  · rw [if_neg hz, if_neg hz]; exact h2 a b ha hb
theorem updL_self (f : Nat → Int64) (j : Nat) (x : Int64) : vp_updL f j x j = x := if_pos rfl
theorem vfu0 (f : Nat → UInt64) (j : Nat) (x : UInt64) : vf_upd f j x j = x := if_pos rfl
theorem preSX {s : State} {H : Heap} {D : va_G} {tys : List (ClassId × FieldType)} {ws : va_W} {sa : Nat → Nat} {As : List Value} (hK : va_K D cls2 tys s) (hP : va_P D cls2 ws H) (hG : xG sa s H) : PreS s H (va_Pc As (xPre D tys ws sa)) As :=
  ⟨xBlind D tys ws sa As, fun U hU hW => ⟨rfl, ⟨by rw [hU]; exact hP, va_K.moved hW.alike hK⟩, by rw [hU]; exact hG.warm hW⟩⟩
theorem preSP {s : State} {H : Heap} {D : va_G} {tys : List (ClassId × FieldType)} {ws : va_W} {As : List Value} (hK : va_K D cls2 tys s) (hP : va_P D cls2 ws H) : PreS s H (va_Pc As (wPre D tys ws)) As :=
  ⟨wBlind D tys ws As, fun U hU hW => ⟨rfl, by rw [hU]; exact hP, va_K.moved hW.alike hK⟩⟩
theorem xG.keep {sa : Nat → Nat} {s : State} {H : Heap} {locs : List Loc} (h : xG sa s s.heap) (hS : va_S (fun x : Nat => s.heap.size ≤ x) s.heap H locs) : xG sa s H :=
  ⟨⟨h.1.1.kept (fun a ha _ => hS.2.1 a ha (Nat.not_le_of_lt ha)), h.1.2.kept (fun a ha _ => hS.2.1 a ha (Nat.not_le_of_lt ha))⟩, h.2⟩
