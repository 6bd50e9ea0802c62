section MYR2
variable {p : Program} {l : Launch} {e : Env} {R : Room} {s : State} {m : MethodId} {args : Array Value} {below : List Frame} {meth : Method} {c : Code} {H : Heap} {locs : List Loc} {cells slots : Nat} {Q : State → Prop}
variable {cc : ByteArray} {pc : Nat} {ls : Array Slot} {rest : List Value}
/-- x > y: dcmpl, ifgt -/
theorem w_dgtT (hexec : p.tables.exec = Jvm.exec) (hb : c.code = cc) {x y : UInt64} {off : Int} {tgt : Nat} (hd1 : decode cc pc = .ok (.dcmp .l, 1)) (hd2 : decode cc (pc + 1) = .ok (.ifCond .gt off, 3)) (ht : ((pc + 1 : Nat) : Int) + off = (tgt : Int))
    (kt : dgt x y = true → W p l e R s m args below meth c H locs cells slots Q (F0 m tgt ls rest)) (kf : dgt x y = false → W p l e R s m args below meth c H locs cells slots Q (F0 m (pc + 4) ls rest)) : W p l e R s m args below meth c H locs cells slots Q (F0 m pc ls (.double y :: .double x :: rest)) := by
  refine lv_dcmp hexec hb hd1 ?_
  refine lv_if_gt hexec hb hd2 ht (fun h => kt ?_) (fun h => kf ?_)
  · unfold dgt; revert h; rcases FP.dcmp x y with _ | (_ | _ | _) <;> decide
  · unfold dgt; revert h; rcases FP.dcmp x y with _ | (_ | _ | _) <;> decide
end MYR2
def shr (n : Nat) (e : Nat → Nat → UInt64) (i k : Nat) : UInt64 := if dgt (rowS e n i) FP.dconst0 = true then FP.ddiv (e i k) (rowS e n i) else FP.dconst0
