section
/-- a private method of a class that the tables say can be made, by its rows of tables_1 -/
def lw_okq (q : MethodName × Nat) : Prop := (q.1.cls ≠ "java/lang/invoke/MethodHandle" ∧ q.1.cls ≠ "java/lang/invoke/VarHandle") ∧ Cond.instantiable q.1.cls q.2 ∈ tables_1 ∧ Cond.privateMethod q.1 ∈ tables_1 ∧ Cond.instanceMethod q.1 ∈ tables_1
theorem lw_p0 : lw_okq (⟨"TurnEstimator", "beginJunction", "(I)V"⟩, 11) := ⟨⟨by decide +kernel, by decide +kernel⟩, List.mem_of_getElem? (i := 15) (by decide +kernel), List.mem_of_getElem? (i := 23) (by decide +kernel), List.mem_of_getElem? (i := 24) (by decide +kernel)⟩
theorem lw_p1 : lw_okq (⟨"TurnEstimator", "putWeight", "(III)V"⟩, 11) := ⟨⟨by decide +kernel, by decide +kernel⟩, List.mem_of_getElem? (i := 15) (by decide +kernel), List.mem_of_getElem? (i := 27) (by decide +kernel), List.mem_of_getElem? (i := 28) (by decide +kernel)⟩
theorem lw_p2 : lw_okq (⟨"TurnEstimator", "resetEstimate", "()V"⟩, 11) := ⟨⟨by decide +kernel, by decide +kernel⟩, List.mem_of_getElem? (i := 15) (by decide +kernel), List.mem_of_getElem? (i := 34) (by decide +kernel), List.mem_of_getElem? (i := 35) (by decide +kernel)⟩
theorem lw_p3 : lw_okq (⟨"TurnEstimator", "total", "([I)I"⟩, 11) := ⟨⟨by decide +kernel, by decide +kernel⟩, List.mem_of_getElem? (i := 15) (by decide +kernel), List.mem_of_getElem? (i := 82) (by decide +kernel), List.mem_of_getElem? (i := 83) (by decide +kernel)⟩
theorem lw_p4 : lw_okq (⟨"TurnEstimator", "allArms", "()I"⟩, 11) := ⟨⟨by decide +kernel, by decide +kernel⟩, List.mem_of_getElem? (i := 15) (by decide +kernel), List.mem_of_getElem? (i := 95) (by decide +kernel), List.mem_of_getElem? (i := 96) (by decide +kernel)⟩
theorem lw_p5 : lw_okq (⟨"TurnEstimator", "excessOver", "(I[I)I"⟩, 11) := ⟨⟨by decide +kernel, by decide +kernel⟩, List.mem_of_getElem? (i := 15) (by decide +kernel), List.mem_of_getElem? (i := 99) (by decide +kernel), List.mem_of_getElem? (i := 100) (by decide +kernel)⟩
theorem lw_p6 : lw_okq (⟨"TurnEstimator", "reachedFrom", "(I)I"⟩, 11) := ⟨⟨by decide +kernel, by decide +kernel⟩, List.mem_of_getElem? (i := 15) (by decide +kernel), List.mem_of_getElem? (i := 103) (by decide +kernel), List.mem_of_getElem? (i := 104) (by decide +kernel)⟩
theorem lw_p7 : lw_okq (⟨"TurnEstimator", "rowSum", "(I)D"⟩, 11) := ⟨⟨by decide +kernel, by decide +kernel⟩, List.mem_of_getElem? (i := 15) (by decide +kernel), List.mem_of_getElem? (i := 123) (by decide +kernel), List.mem_of_getElem? (i := 124) (by decide +kernel)⟩
theorem lw_p8 : lw_okq (⟨"TurnEstimator", "columnSum", "(I)D"⟩, 11) := ⟨⟨by decide +kernel, by decide +kernel⟩, List.mem_of_getElem? (i := 15) (by decide +kernel), List.mem_of_getElem? (i := 130) (by decide +kernel), List.mem_of_getElem? (i := 131) (by decide +kernel)⟩
theorem lw_p9 : lw_okq (⟨"TurnEstimator", "roundAllRows", "()V"⟩, 11) := ⟨⟨by decide +kernel, by decide +kernel⟩, List.mem_of_getElem? (i := 15) (by decide +kernel), List.mem_of_getElem? (i := 142) (by decide +kernel), List.mem_of_getElem? (i := 143) (by decide +kernel)⟩
theorem lw_p10 : lw_okq (⟨"TurnEstimator", "roundRow", "(I)V"⟩, 11) := ⟨⟨by decide +kernel, by decide +kernel⟩, List.mem_of_getElem? (i := 15) (by decide +kernel), List.mem_of_getElem? (i := 146) (by decide +kernel), List.mem_of_getElem? (i := 147) (by decide +kernel)⟩
theorem lw_p11 : lw_okq (⟨"TurnEstimator", "raiseGreatestFractions", "(II)V"⟩, 11) := ⟨⟨by decide +kernel, by decide +kernel⟩, List.mem_of_getElem? (i := 15) (by decide +kernel), List.mem_of_getElem? (i := 150) (by decide +kernel), List.mem_of_getElem? (i := 151) (by decide +kernel)⟩
theorem lw_p12 : lw_okq (⟨"TurnEstimator", "greatestFraction", "(I)I"⟩, 11) := ⟨⟨by decide +kernel, by decide +kernel⟩, List.mem_of_getElem? (i := 15) (by decide +kernel), List.mem_of_getElem? (i := 157) (by decide +kernel), List.mem_of_getElem? (i := 158) (by decide +kernel)⟩
theorem lw_p13 : lw_okq (⟨"TurnEstimator", "isOpen", "(II)Z"⟩, 11) := ⟨⟨by decide +kernel, by decide +kernel⟩, List.mem_of_getElem? (i := 15) (by decide +kernel), List.mem_of_getElem? (i := 162) (by decide +kernel), List.mem_of_getElem? (i := 163) (by decide +kernel)⟩
theorem lw_p14 : lw_okq (⟨"TurnEstimator", "roundedDifference", "()I"⟩, 11) := ⟨⟨by decide +kernel, by decide +kernel⟩, List.mem_of_getElem? (i := 15) (by decide +kernel), List.mem_of_getElem? (i := 166) (by decide +kernel), List.mem_of_getElem? (i := 167) (by decide +kernel)⟩
theorem lw_p15 : lw_okq (⟨"TurnEstimator", "fillPossibleTable", "()V"⟩, 11) := ⟨⟨by decide +kernel, by decide +kernel⟩, List.mem_of_getElem? (i := 15) (by decide +kernel), List.mem_of_getElem? (i := 177) (by decide +kernel), List.mem_of_getElem? (i := 178) (by decide +kernel)⟩
def lw_privs_1 : List (MethodName × Nat) := [(⟨"TurnEstimator", "beginJunction", "(I)V"⟩, 11), (⟨"TurnEstimator", "putWeight", "(III)V"⟩, 11), (⟨"TurnEstimator", "resetEstimate", "()V"⟩, 11), (⟨"TurnEstimator", "total", "([I)I"⟩, 11), (⟨"TurnEstimator", "allArms", "()I"⟩, 11), (⟨"TurnEstimator", "excessOver", "(I[I)I"⟩, 11), (⟨"TurnEstimator", "reachedFrom", "(I)I"⟩, 11), (⟨"TurnEstimator", "rowSum", "(I)D"⟩, 11), (⟨"TurnEstimator", "columnSum", "(I)D"⟩, 11), (⟨"TurnEstimator", "roundAllRows", "()V"⟩, 11), (⟨"TurnEstimator", "roundRow", "(I)V"⟩, 11), (⟨"TurnEstimator", "raiseGreatestFractions", "(II)V"⟩, 11), (⟨"TurnEstimator", "greatestFraction", "(I)I"⟩, 11), (⟨"TurnEstimator", "isOpen", "(II)Z"⟩, 11), (⟨"TurnEstimator", "roundedDifference", "()I"⟩, 11), (⟨"TurnEstimator", "fillPossibleTable", "()V"⟩, 11)]
theorem lw_r1 : ∀ q ∈ lw_privs_1, lw_okq q := List.forall_mem_cons.mpr ⟨lw_p0, List.forall_mem_cons.mpr ⟨lw_p1, List.forall_mem_cons.mpr ⟨lw_p2, List.forall_mem_cons.mpr ⟨lw_p3, List.forall_mem_cons.mpr ⟨lw_p4, List.forall_mem_cons.mpr ⟨lw_p5, List.forall_mem_cons.mpr ⟨lw_p6, List.forall_mem_cons.mpr ⟨lw_p7, List.forall_mem_cons.mpr ⟨lw_p8, List.forall_mem_cons.mpr ⟨lw_p9, List.forall_mem_cons.mpr ⟨lw_p10, List.forall_mem_cons.mpr ⟨lw_p11, List.forall_mem_cons.mpr ⟨lw_p12, List.forall_mem_cons.mpr ⟨lw_p13, List.forall_mem_cons.mpr ⟨lw_p14, List.forall_mem_cons.mpr ⟨lw_p15, fun _ h => absurd h List.not_mem_nil⟩⟩⟩⟩⟩⟩⟩⟩⟩⟩⟩⟩⟩⟩⟩⟩
theorem lw_p16 : lw_okq (⟨"TurnEstimator", "greatestPossible", "(III)I"⟩, 11) := ⟨⟨by decide +kernel, by decide +kernel⟩, List.mem_of_getElem? (i := 15) (by decide +kernel), List.mem_of_getElem? (i := 185) (by decide +kernel), List.mem_of_getElem? (i := 186) (by decide +kernel)⟩
theorem lw_p17 : lw_okq (⟨"TurnEstimator", "mixedTurn", "(JI)J"⟩, 11) := ⟨⟨by decide +kernel, by decide +kernel⟩, List.mem_of_getElem? (i := 15) (by decide +kernel), List.mem_of_getElem? (i := 194) (by decide +kernel), List.mem_of_getElem? (i := 195) (by decide +kernel)⟩
theorem lw_p18 : lw_okq (⟨"java/lang/Throwable", "fillInStackTrace", "(I)Ljava/lang/Throwable;"⟩, 6) := ⟨⟨by decide +kernel, by decide +kernel⟩, List.mem_of_getElem? (i := 255) (by decide +kernel), List.mem_of_getElem? (i := 253) (by decide +kernel), List.mem_of_getElem? (i := 254) (by decide +kernel)⟩
theorem lw_p19 : lw_okq (⟨"TurnEstimator", "setCount", "([III)I"⟩, 11) := ⟨⟨by decide +kernel, by decide +kernel⟩, List.mem_of_getElem? (i := 15) (by decide +kernel), List.mem_of_getElem? (i := 316) (by decide +kernel), List.mem_of_getElem? (i := 317) (by decide +kernel)⟩
theorem lw_p20 : lw_okq (⟨"TurnEstimator", "requireArm", "(I)V"⟩, 11) := ⟨⟨by decide +kernel, by decide +kernel⟩, List.mem_of_getElem? (i := 15) (by decide +kernel), List.mem_of_getElem? (i := 320) (by decide +kernel), List.mem_of_getElem? (i := 321) (by decide +kernel)⟩
theorem lw_p21 : lw_okq (⟨"TurnEstimator", "carryOutRound", "()V"⟩, 11) := ⟨⟨by decide +kernel, by decide +kernel⟩, List.mem_of_getElem? (i := 15) (by decide +kernel), List.mem_of_getElem? (i := 395) (by decide +kernel), List.mem_of_getElem? (i := 396) (by decide +kernel)⟩
theorem lw_p22 : lw_okq (⟨"TurnEstimator", "carryOutRowStep", "(I)V"⟩, 11) := ⟨⟨by decide +kernel, by decide +kernel⟩, List.mem_of_getElem? (i := 15) (by decide +kernel), List.mem_of_getElem? (i := 399) (by decide +kernel), List.mem_of_getElem? (i := 400) (by decide +kernel)⟩
theorem lw_p23 : lw_okq (⟨"TurnEstimator", "carryOutColumnStep", "(I)V"⟩, 11) := ⟨⟨by decide +kernel, by decide +kernel⟩, List.mem_of_getElem? (i := 15) (by decide +kernel), List.mem_of_getElem? (i := 403) (by decide +kernel), List.mem_of_getElem? (i := 404) (by decide +kernel)⟩
theorem lw_p24 : lw_okq (⟨"TurnEstimatorModel", "begin", "()V"⟩, 13) := ⟨⟨by decide +kernel, by decide +kernel⟩, List.mem_of_getElem? (i := 474) (by decide +kernel), List.mem_of_getElem? (i := 480) (by decide +kernel), List.mem_of_getElem? (i := 481) (by decide +kernel)⟩
theorem lw_p25 : lw_okq (⟨"TurnEstimatorModel", "layWeights", "()V"⟩, 13) := ⟨⟨by decide +kernel, by decide +kernel⟩, List.mem_of_getElem? (i := 474) (by decide +kernel), List.mem_of_getElem? (i := 484) (by decide +kernel), List.mem_of_getElem? (i := 485) (by decide +kernel)⟩
theorem lw_p26 : lw_okq (⟨"TurnEstimatorModel", "isArm", "(I)Z"⟩, 13) := ⟨⟨by decide +kernel, by decide +kernel⟩, List.mem_of_getElem? (i := 474) (by decide +kernel), List.mem_of_getElem? (i := 547) (by decide +kernel), List.mem_of_getElem? (i := 548) (by decide +kernel)⟩
theorem lw_p27 : lw_okq (⟨"TurnEstimatorModel", "isScalable", "(I)Z"⟩, 13) := ⟨⟨by decide +kernel, by decide +kernel⟩, List.mem_of_getElem? (i := 474) (by decide +kernel), List.mem_of_getElem? (i := 563) (by decide +kernel), List.mem_of_getElem? (i := 564) (by decide +kernel)⟩
theorem lw_p28 : lw_okq (⟨"TurnEstimatorModel", "difference", "()I"⟩, 13) := ⟨⟨by decide +kernel, by decide +kernel⟩, List.mem_of_getElem? (i := 474) (by decide +kernel), List.mem_of_getElem? (i := 574) (by decide +kernel), List.mem_of_getElem? (i := 575) (by decide +kernel)⟩
theorem lw_p29 : lw_okq (⟨"TurnEstimatorModel", "arePossible", "()Z"⟩, 13) := ⟨⟨by decide +kernel, by decide +kernel⟩, List.mem_of_getElem? (i := 474) (by decide +kernel), List.mem_of_getElem? (i := 582) (by decide +kernel), List.mem_of_getElem? (i := 583) (by decide +kernel)⟩
theorem lw_p30 : lw_okq (⟨"TurnEstimatorModel", "crowded", "()I"⟩, 13) := ⟨⟨by decide +kernel, by decide +kernel⟩, List.mem_of_getElem? (i := 474) (by decide +kernel), List.mem_of_getElem? (i := 586) (by decide +kernel), List.mem_of_getElem? (i := 587) (by decide +kernel)⟩
theorem lw_p31 : lw_okq (⟨"TurnEstimatorModel", "excessOf", "(I)I"⟩, 13) := ⟨⟨by decide +kernel, by decide +kernel⟩, List.mem_of_getElem? (i := 474) (by decide +kernel), List.mem_of_getElem? (i := 590) (by decide +kernel), List.mem_of_getElem? (i := 591) (by decide +kernel)⟩
def lw_privs_2 : List (MethodName × Nat) := [(⟨"TurnEstimator", "greatestPossible", "(III)I"⟩, 11), (⟨"TurnEstimator", "mixedTurn", "(JI)J"⟩, 11), (⟨"java/lang/Throwable", "fillInStackTrace", "(I)Ljava/lang/Throwable;"⟩, 6), (⟨"TurnEstimator", "setCount", "([III)I"⟩, 11), (⟨"TurnEstimator", "requireArm", "(I)V"⟩, 11), (⟨"TurnEstimator", "carryOutRound", "()V"⟩, 11), (⟨"TurnEstimator", "carryOutRowStep", "(I)V"⟩, 11), (⟨"TurnEstimator", "carryOutColumnStep", "(I)V"⟩, 11), (⟨"TurnEstimatorModel", "begin", "()V"⟩, 13), (⟨"TurnEstimatorModel", "layWeights", "()V"⟩, 13), (⟨"TurnEstimatorModel", "isArm", "(I)Z"⟩, 13), (⟨"TurnEstimatorModel", "isScalable", "(I)Z"⟩, 13), (⟨"TurnEstimatorModel", "difference", "()I"⟩, 13), (⟨"TurnEstimatorModel", "arePossible", "()Z"⟩, 13), (⟨"TurnEstimatorModel", "crowded", "()I"⟩, 13), (⟨"TurnEstimatorModel", "excessOf", "(I)I"⟩, 13)]
theorem lw_r2 : ∀ q ∈ lw_privs_2, lw_okq q := List.forall_mem_cons.mpr ⟨lw_p16, List.forall_mem_cons.mpr ⟨lw_p17, List.forall_mem_cons.mpr ⟨lw_p18, List.forall_mem_cons.mpr ⟨lw_p19, List.forall_mem_cons.mpr ⟨lw_p20, List.forall_mem_cons.mpr ⟨lw_p21, List.forall_mem_cons.mpr ⟨lw_p22, List.forall_mem_cons.mpr ⟨lw_p23, List.forall_mem_cons.mpr ⟨lw_p24, List.forall_mem_cons.mpr ⟨lw_p25, List.forall_mem_cons.mpr ⟨lw_p26, List.forall_mem_cons.mpr ⟨lw_p27, List.forall_mem_cons.mpr ⟨lw_p28, List.forall_mem_cons.mpr ⟨lw_p29, List.forall_mem_cons.mpr ⟨lw_p30, List.forall_mem_cons.mpr ⟨lw_p31, fun _ h => absurd h List.not_mem_nil⟩⟩⟩⟩⟩⟩⟩⟩⟩⟩⟩⟩⟩⟩⟩⟩
theorem lw_p32 : lw_okq (⟨"TurnEstimatorModel", "oneRound", "()V"⟩, 13) := ⟨⟨by decide +kernel, by decide +kernel⟩, List.mem_of_getElem? (i := 474) (by decide +kernel), List.mem_of_getElem? (i := 606) (by decide +kernel), List.mem_of_getElem? (i := 607) (by decide +kernel)⟩
theorem lw_p33 : lw_okq (⟨"TurnEstimatorModel", "rowStep", "(I)V"⟩, 13) := ⟨⟨by decide +kernel, by decide +kernel⟩, List.mem_of_getElem? (i := 474) (by decide +kernel), List.mem_of_getElem? (i := 610) (by decide +kernel), List.mem_of_getElem? (i := 611) (by decide +kernel)⟩
theorem lw_p34 : lw_okq (⟨"TurnEstimatorModel", "rowSum", "(I)D"⟩, 13) := ⟨⟨by decide +kernel, by decide +kernel⟩, List.mem_of_getElem? (i := 474) (by decide +kernel), List.mem_of_getElem? (i := 614) (by decide +kernel), List.mem_of_getElem? (i := 615) (by decide +kernel)⟩
theorem lw_p35 : lw_okq (⟨"TurnEstimatorModel", "columnStep", "(I)V"⟩, 13) := ⟨⟨by decide +kernel, by decide +kernel⟩, List.mem_of_getElem? (i := 474) (by decide +kernel), List.mem_of_getElem? (i := 618) (by decide +kernel), List.mem_of_getElem? (i := 619) (by decide +kernel)⟩
theorem lw_p36 : lw_okq (⟨"TurnEstimatorModel", "columnSum", "(I)D"⟩, 13) := ⟨⟨by decide +kernel, by decide +kernel⟩, List.mem_of_getElem? (i := 474) (by decide +kernel), List.mem_of_getElem? (i := 622) (by decide +kernel), List.mem_of_getElem? (i := 623) (by decide +kernel)⟩
theorem lw_p37 : lw_okq (⟨"TurnEstimatorModel", "misfitNow", "()D"⟩, 13) := ⟨⟨by decide +kernel, by decide +kernel⟩, List.mem_of_getElem? (i := 474) (by decide +kernel), List.mem_of_getElem? (i := 631) (by decide +kernel), List.mem_of_getElem? (i := 632) (by decide +kernel)⟩
theorem lw_p38 : lw_okq (⟨"TurnEstimatorModel", "areArms", "(II)Z"⟩, 13) := ⟨⟨by decide +kernel, by decide +kernel⟩, List.mem_of_getElem? (i := 474) (by decide +kernel), List.mem_of_getElem? (i := 651) (by decide +kernel), List.mem_of_getElem? (i := 652) (by decide +kernel)⟩
theorem lw_p39 : lw_okq (⟨"TurnEstimatorModel", "busiest", "()I"⟩, 13) := ⟨⟨by decide +kernel, by decide +kernel⟩, List.mem_of_getElem? (i := 474) (by decide +kernel), List.mem_of_getElem? (i := 675) (by decide +kernel), List.mem_of_getElem? (i := 676) (by decide +kernel)⟩
theorem lw_p40 : lw_okq (⟨"TurnEstimatorModel", "roundRow", "(I)V"⟩, 13) := ⟨⟨by decide +kernel, by decide +kernel⟩, List.mem_of_getElem? (i := 474) (by decide +kernel), List.mem_of_getElem? (i := 683) (by decide +kernel), List.mem_of_getElem? (i := 684) (by decide +kernel)⟩
theorem lw_p41 : lw_okq (⟨"TurnEstimatorModel", "nextOf", "(I)I"⟩, 13) := ⟨⟨by decide +kernel, by decide +kernel⟩, List.mem_of_getElem? (i := 474) (by decide +kernel), List.mem_of_getElem? (i := 687) (by decide +kernel), List.mem_of_getElem? (i := 688) (by decide +kernel)⟩
theorem lw_p42 : lw_okq (⟨"TurnEstimatorModel", "wholeMisfit", "()I"⟩, 13) := ⟨⟨by decide +kernel, by decide +kernel⟩, List.mem_of_getElem? (i := 474) (by decide +kernel), List.mem_of_getElem? (i := 696) (by decide +kernel), List.mem_of_getElem? (i := 697) (by decide +kernel)⟩
theorem lw_p43 : lw_okq (⟨"TurnEstimatorModel", "layWhole", "()V"⟩, 13) := ⟨⟨by decide +kernel, by decide +kernel⟩, List.mem_of_getElem? (i := 474) (by decide +kernel), List.mem_of_getElem? (i := 700) (by decide +kernel), List.mem_of_getElem? (i := 701) (by decide +kernel)⟩
theorem lw_p44 : lw_okq (⟨"TurnEstimatorModel", "possibleNow", "(II)I"⟩, 13) := ⟨⟨by decide +kernel, by decide +kernel⟩, List.mem_of_getElem? (i := 474) (by decide +kernel), List.mem_of_getElem? (i := 708) (by decide +kernel), List.mem_of_getElem? (i := 709) (by decide +kernel)⟩
theorem lw_p45 : lw_okq (⟨"TurnEstimatorModel", "layTable", "()V"⟩, 13) := ⟨⟨by decide +kernel, by decide +kernel⟩, List.mem_of_getElem? (i := 474) (by decide +kernel), List.mem_of_getElem? (i := 712) (by decide +kernel), List.mem_of_getElem? (i := 713) (by decide +kernel)⟩
theorem lw_p46 : lw_okq (⟨"TurnEstimatorModel", "layCell", "(II)V"⟩, 13) := ⟨⟨by decide +kernel, by decide +kernel⟩, List.mem_of_getElem? (i := 474) (by decide +kernel), List.mem_of_getElem? (i := 716) (by decide +kernel), List.mem_of_getElem? (i := 717) (by decide +kernel)⟩
theorem lw_p47 : lw_okq (⟨"TurnEstimatorModel", "leftBy", "(II)I"⟩, 13) := ⟨⟨by decide +kernel, by decide +kernel⟩, List.mem_of_getElem? (i := 474) (by decide +kernel), List.mem_of_getElem? (i := 720) (by decide +kernel), List.mem_of_getElem? (i := 721) (by decide +kernel)⟩
def lw_privs_3 : List (MethodName × Nat) := [(⟨"TurnEstimatorModel", "oneRound", "()V"⟩, 13), (⟨"TurnEstimatorModel", "rowStep", "(I)V"⟩, 13), (⟨"TurnEstimatorModel", "rowSum", "(I)D"⟩, 13), (⟨"TurnEstimatorModel", "columnStep", "(I)V"⟩, 13), (⟨"TurnEstimatorModel", "columnSum", "(I)D"⟩, 13), (⟨"TurnEstimatorModel", "misfitNow", "()D"⟩, 13), (⟨"TurnEstimatorModel", "areArms", "(II)Z"⟩, 13), (⟨"TurnEstimatorModel", "busiest", "()I"⟩, 13), (⟨"TurnEstimatorModel", "roundRow", "(I)V"⟩, 13), (⟨"TurnEstimatorModel", "nextOf", "(I)I"⟩, 13), (⟨"TurnEstimatorModel", "wholeMisfit", "()I"⟩, 13), (⟨"TurnEstimatorModel", "layWhole", "()V"⟩, 13), (⟨"TurnEstimatorModel", "possibleNow", "(II)I"⟩, 13), (⟨"TurnEstimatorModel", "layTable", "()V"⟩, 13), (⟨"TurnEstimatorModel", "layCell", "(II)V"⟩, 13), (⟨"TurnEstimatorModel", "leftBy", "(II)I"⟩, 13)]
theorem lw_r3 : ∀ q ∈ lw_privs_3, lw_okq q := List.forall_mem_cons.mpr ⟨lw_p32, List.forall_mem_cons.mpr ⟨lw_p33, List.forall_mem_cons.mpr ⟨lw_p34, List.forall_mem_cons.mpr ⟨lw_p35, List.forall_mem_cons.mpr ⟨lw_p36, List.forall_mem_cons.mpr ⟨lw_p37, List.forall_mem_cons.mpr ⟨lw_p38, List.forall_mem_cons.mpr ⟨lw_p39, List.forall_mem_cons.mpr ⟨lw_p40, List.forall_mem_cons.mpr ⟨lw_p41, List.forall_mem_cons.mpr ⟨lw_p42, List.forall_mem_cons.mpr ⟨lw_p43, List.forall_mem_cons.mpr ⟨lw_p44, List.forall_mem_cons.mpr ⟨lw_p45, List.forall_mem_cons.mpr ⟨lw_p46, List.forall_mem_cons.mpr ⟨lw_p47, fun _ h => absurd h List.not_mem_nil⟩⟩⟩⟩⟩⟩⟩⟩⟩⟩⟩⟩⟩⟩⟩⟩
theorem lw_p48 : lw_okq (⟨"TurnEstimatorModel", "mix", "(J)V"⟩, 13) := ⟨⟨by decide +kernel, by decide +kernel⟩, List.mem_of_getElem? (i := 474) (by decide +kernel), List.mem_of_getElem? (i := 729) (by decide +kernel), List.mem_of_getElem? (i := 730) (by decide +kernel)⟩
theorem lw_p49 : lw_okq (⟨"TurnEstimatorModel", "mixTurns", "()V"⟩, 13) := ⟨⟨by decide +kernel, by decide +kernel⟩, List.mem_of_getElem? (i := 474) (by decide +kernel), List.mem_of_getElem? (i := 734) (by decide +kernel), List.mem_of_getElem? (i := 735) (by decide +kernel)⟩
def lw_privs_4 : List (MethodName × Nat) := [(⟨"TurnEstimatorModel", "mix", "(J)V"⟩, 13), (⟨"TurnEstimatorModel", "mixTurns", "()V"⟩, 13)]
theorem lw_r4 : ∀ q ∈ lw_privs_4, lw_okq q := List.forall_mem_cons.mpr ⟨lw_p48, List.forall_mem_cons.mpr ⟨lw_p49, fun _ h => absurd h List.not_mem_nil⟩⟩
def lw_privs : List (MethodName × Nat) := lw_privs_1 ++ (lw_privs_2 ++ (lw_privs_3 ++ (lw_privs_4)))
def lw_tbl : List Cond := k2_sels lw_privs ++ tables_1
theorem lw_privs_ok : ∀ q ∈ lw_privs, lw_okq q := by
  show ∀ q ∈ lw_privs_1 ++ (lw_privs_2 ++ (lw_privs_3 ++ (lw_privs_4))), lw_okq q
  exact List.forall_mem_append.mpr ⟨lw_r1, List.forall_mem_append.mpr ⟨lw_r2, List.forall_mem_append.mpr ⟨lw_r3, lw_r4⟩⟩⟩
/-- the streams that the claim lets the run draw from -/
abbrev lw_cs : List Choice := [Jvm.Choice.named "NaN.bits"]
theorem lw_bits : nanBits ∈ lw_cs := by first | decide | exact List.mem_cons_self | simp [lw_cs, nanBits]
end
section
/-! ===== BEGIN words of one list among another's, by their places ===== -/
theorem goodIn_r {big : List Cond} (ws : List Cond) (ps : List Nat) (hp : ws = ps.filterMap (fun i => big[i]?)) (h : ws.all goodWord = true) : GoodIn big ws := by
  intro w hw
  have h1 := List.all_eq_true.mp h w hw
  rw [hp] at hw
  obtain ⟨i, -, hi⟩ := List.mem_filterMap.mp hw
  have hm : w ∈ big := by first | exact List.mem_of_getElem? hi | exact List.getElem?_mem hi
  exact ⟨hm, good_of_word h1⟩
theorem goodIn_app {big a b : List Cond} (ha : GoodIn big a) (hb : GoodIn big b) : GoodIn big (a ++ b) := fun w h => (List.mem_append.mp h).elim (ha w) (hb w)
theorem goodIn_ca {big a b : List Cond} {c : Cond} (ha : GoodIn big (c :: a)) (hb : GoodIn big b) : GoodIn big (c :: (a ++ b)) := fun w h => (List.mem_cons.mp h).elim (fun e => ha w (List.mem_cons.mpr (Or.inl e))) (fun h => (List.mem_append.mp h).elim (fun h => ha w (List.mem_cons.mpr (Or.inr h))) (hb w))
theorem goodIn_sub {big ws : List Cond} (hm : ∀ w ∈ ws, w ∈ big) (h : ws.all goodWord = true) : GoodIn big ws := fun w hw => ⟨hm w hw, good_of_word (List.all_eq_true.mp h w hw)⟩
/-! ===== END ===== -/

/-! ===== BEGIN exceptions that leave a method, and their catching by the caller (launches without stack traces) ===== -/
section VXA
/-! The laws vx_back, vx_callV, vx_callS, vx_callSW, vx_throw0, vx_throwS follow proofs of the library, with one case more: JvmDerived/Free/Laws.lean (Back.of_free), Shelf42/LK1.lean (callV, callS), Shelf/KitTraced.lean (throwNew0V, throwNewS). -/
/-- where a method has thrown q: the class by its name, the cell, what was written, the world -/
def vx_T (XC : String → State → State → Prop) (st : State) (q : Addr) (t : State) (mc ms : Nat) (free : Addr → Prop) : Prop :=
  ∃ (E : String) (ce : Cell) (L : List Loc), XC E st t ∧ t.heap[q]? = some ce ∧ ce.vm = .none ∧ st.vm.findClass E = some ce.cls ∧ st.WarmedH t.vm ∧ st.sameButNew ({ t with vm := st.vm } : State) L mc ms ∧ ∀ z ∈ L, free z.base
def vx_Q (Qc : Array Value → State → Outcome → State → Prop) (XC : String → State → State → Prop) (mc ms : Nat) (free : Addr → Prop) : Array Value → State → Outcome → State → Prop := fun a st o t =>
  (Qc a st o t ∧ ∃ L, FrameEnd st o t L mc ms ∧ ∀ q ∈ L, free q.base) ∨ ∃ q, o = .threw q ∧ vx_T XC st q t mc ms free
/-- a callee that returns or throws -/
def vx_Met (l : Launch) (y : MethodName) (ws : List Cond) (rm : Room) (Pc : Array Value → State → Prop) (Qc : Array Value → State → Outcome → State → Prop) (XC : String → State → State → Prop) (mc ms : Nat) (free : Addr → Prop) : Prop :=
  MetFree l y (headSpec ws rm) Pc (fun _ _ _ _ _ => True) (vx_Q Qc XC mc ms free)
def vx_Post (XC : String → State → State → Prop) (mc ms : Nat) (free : Addr → Prop) : Pt → Array Value → Addr → Pt → Prop := fun A a q B =>
  ∃ (g : JFrame) (mk : MethodId) (t : State) (L : List Loc) (E : String) (ce : Cell), B.U.heap = t.heap ∧ B.U.vm = t.vm ∧ XC E (A.U.calling g mk a) t ∧ t.heap[q]? = some ce ∧ ce.vm = .none ∧ A.U.vm.findClass E = some ce.cls ∧ B.locs = A.locs ++ L ∧ (∀ z ∈ L, free z.base) ∧ B.cells = A.cells + mc ∧ B.slots = A.slots + ms
def vx_Back (l : Launch) (R : Room) (p : Program) (e : Env) (below : List Frame) (s : State) (sargs : Array Value) (y : MethodName) (len W9 : Nat)
    (Pre : Pt → Array Value → Prop) (Post : Pt → Array Value → Option Value → Pt → Prop) (PostX : Pt → Array Value → Addr → Pt → Prop) : Prop :=
  ∀ (m : MethodId) (meth : Method) (c : Code) (A : Pt) (g : JFrame) (ig : Instr) (mk : MethodId) (a : Array Value),
    Stand p l e R s m sargs below meth c A.U A.locs A.cells A.slots → g.method = m → g.locals.size = c.maxLocals → decode c.code g.pc = .ok (ig, len) →
    2 * g.monitorRoom + (g.stack.map fun v => v.category).sum ≤ W9 → A.U.methodNamed? y = some mk → Pre A a →
    (∃ (v : Option Value) (B : Pt), Stand p l e R s m sargs below meth c B.U B.locs B.cells B.slots ∧ Post A a v B ∧
      Steps p.tables e below (doInvoke e (A.U.setTop g) [] mk a).1 (B.U.setTop { g with pc := g.pc + len, stack := v.toList ++ g.stack })) ∨
    (∃ (q : Addr) (B : Pt), Stand p l e R s m sargs below meth c B.U B.locs B.cells B.slots ∧ PostX A a q B ∧
      Steps p.tables e below (doInvoke e (A.U.setTop g) [] mk a).1 ((B.U.setTop g).pushFrame (.throwing q)))
section Payer
variable {l : Launch} {R : Room} {p : Program} {e : Env} {below : List Frame} {s : State} {sargs : Array Value} {y : MethodName} {len W9 : Nat}
theorem vx_back {ws : List Cond} {rm : Room} {Pc : Array Value → State → Prop} {Qc : Array Value → State → Outcome → State → Prop} {XC : String → State → State → Prop} {mc ms : Nat} {free : Addr → Prop} {bytes : ByteArray} {maxL : Nat} {ret : Option FieldType}
    (hM : vx_Met l y ws rm Pc Qc XC mc ms free) (hblind : FrameBlind Pc) (hrc : rm.cells = mc) (hrs : rm.slots = ms)
    (hframes : rm.frames + 1 ≤ R.frames) (hlocals : W9 + (maxL + 11) + rm.locals ≤ R.locals)
    (hws : ∀ w ∈ ws, ∀ a' U, s.WarmedH U.vm → w.before a' U = true) (hcode : Cond.code y bytes maxL ret ∈ ws) (hinit : ∀ a' U, s.WarmedH U.vm → (Cond.initialized y.cls).before a' U = true) :
    vx_Back l R p e below s sargs y len W9 (PreOf R mc ms Pc) (PostOf Qc mc ms free) (vx_Post XC mc ms free) := by
  intro m meth c A g ig mk a X hg hsize hdg hW hn hp
  have h1 : (headSpec ws rm).pre.before a A.U = true := atoms_intro fun w hw => hws w hw _ _ X.warmed
  have h2 : (Cond.code y bytes maxL ret).before a A.U = true := hws _ hcode _ _ X.warmed
  have h3 : (Cond.initialized y.cls).before a A.U = true := hinit _ _ X.warmed
  have h4 : A.cells + (headSpec ws rm).room.cells ≤ R.cells := by rw [show (headSpec ws rm).room.cells = mc from hrc]; exact hp.1
  have h5 : A.slots + (headSpec ws rm).room.slots ≤ R.slots := by rw [show (headSpec ws rm).room.slots = ms from hrs]; exact hp.2.1
  have hPc : Pc a (A.U.calling g mk a) := hblind _ _ _ _ hp.2.2
  obtain ⟨U, Ls, c0, s0⟩ := A
  dsimp only [Pt.U, Pt.locs, Pt.cells, Pt.slots] at h1 h2 h3 h4 h5 X hn hPc ⊢
  obtain ⟨methY, cY, hmY, hcY, -, hlY, -, -, -, -⟩ := Cond.code_spec hn h2
  obtain ⟨kY, hkY, -⟩ := className_of_methodNamed hn
  have hinitY : kY.init = .initialized := Cond.initialized_spec (findClass_of_methodNamed hn) hkY h3
  have h : At U g.method c below := by rw [hg]; exact X.here
  have hlocals9 : W9 + (maxL + 11) + (headSpec ws rm).room.locals ≤ R.locals := hlocals
  have happ : (headSpec ws rm).appliesLoose y e.platform (U.calling g mk a) = true :=
    Spec.appliesLoose_calling (g := g) h hdg hn hkY hinitY
      (X.room_calling (g := g) (R' := (headSpec ws rm).room) hsize hmY hcY hframes (by rw [hlY]; omega) h4 h5) h1
  obtain ⟨mid, hmid⟩ := h.above
  have hfr : (U.setTop g).frames = (.java g :: mid) ++ below := by rw [State.frames_setTop' g h.top, hmid]; rfl
  obtain ⟨o, s₂, hsteps, -, hend, hq⟩ := Steps.callFree hM p X.admits X.cas X.clock (acts := []) hfr happ hPc trivial
  have hq' : vx_Q Qc XC mc ms free a (U.calling g mk a) o s₂ := hq
  rw [State.frames_setTop' g h.top] at hend
  obtain ⟨g₀, hg0⟩ := Option.isSome_iff_exists.mp h.top
  obtain ⟨r, hr⟩ := State.topJava?_eq_some.mp hg0
  have hr' : (({ U with heap := s₂.heap, slotsUsed := s₂.slotsUsed } : State).setVm s₂.vm).frames = .java g₀ :: r := hr
  rcases hq' with ⟨hqc, L, hfe, hL⟩ | ⟨q, rfl, E, ce, L, hx, hce, hcv, hcl, hW₂, hsm, hL⟩
  · obtain ⟨⟨v, rfl⟩, hW₂, e2, q2, q3, q4, q5, q6⟩ := id hfe
    have e3 : s₂ = ({ (U.calling g mk a).setFrames s₂.frames with heap := s₂.heap, slotsUsed := s₂.slotsUsed } : State).setVm s₂.vm := by
      have : s₂ = ({ s₂ with vm := (U.calling g mk a).vm } : State).setVm s₂.vm := rfl
      rw [e2] at this
      exact this
    obtain ⟨c₂, i₂, len₂, hc₂, hd₂, hf₂⟩ := hend
    have hW' : U.WarmedH s₂.vm := hW₂
    have hcc : c₂ = c := by
      have h1 : s₂.code? g.method = U.code? g.method := by
        rw [State.code?_eq, State.code?_eq, hW'.alike.method?]
      exact Option.some.inj (hc₂.symm.trans (h1.trans h.code))
    subst hcc
    have hlen : len₂ = len := by rw [hdg] at hd₂; cases hd₂; rfl
    subst hlen
    have hs₂ : s₂ = (({ U with heap := s₂.heap, slotsUsed := s₂.slotsUsed } : State).setVm s₂.vm).setTop { g with pc := g.pc + len₂, stack := v.toList ++ g.stack } := by
      refine e3.trans ?_
      rw [hf₂, State.calling_eq h.top, State.setFrames_setFrames, State.setTop_of_frames _ hr', hr]
      rfl
    have hsame : U.sameButNew ({ U with heap := s₂.heap, slotsUsed := s₂.slotsUsed } : State) L mc ms := by
      refine ⟨?_, q2, q3, q4, q5, q6⟩
      obtain ⟨t, ht, -⟩ := State.frames_cons hr
      show ({ U with heap := s₂.heap, slotsUsed := s₂.slotsUsed } : State) = { U.setFrames U.frames with heap := s₂.heap, slotsUsed := s₂.slotsUsed }
      rw [State.setFrames_self ht]
    subst hg
    refine Or.inl ⟨v, ⟨(({ U with heap := s₂.heap, slotsUsed := s₂.slotsUsed } : State).setVm s₂.vm), Ls ++ L, c0 + mc, s0 + ms⟩,
      ⟨X.admits, X.cas, X.clock, X.frames, X.room, X.hears, X.method, X.code, (X.here.setHeapUsed s₂.heap s₂.slotsUsed).setVm hW'.alike, X.tail, State.WarmedH.trans X.warmed hW', X.limits, X.bytes, X.same.trans (hsame.setVm s.vm)⟩,
      ⟨g, mk, s₂, L, rfl, rfl, hqc, rfl, hL, rfl, rfl⟩, ?_⟩
    show Steps p.tables e below _ ((({ U with heap := s₂.heap, slotsUsed := s₂.slotsUsed } : State).setVm s₂.vm).setTop { g with pc := g.pc + len₂, stack := v.toList ++ g.stack })
    rw [← hs₂]
    exact hsteps
  · obtain ⟨e2, q2, q3, q4, q5, q6⟩ := id hsm
    have e3 : s₂ = ({ (U.calling g mk a).setFrames s₂.frames with heap := s₂.heap, slotsUsed := s₂.slotsUsed } : State).setVm s₂.vm := by
      have : s₂ = ({ s₂ with vm := (U.calling g mk a).vm } : State).setVm s₂.vm := rfl
      rw [e2] at this
      exact this
    have hf₂ : s₂.frames = .throwing q :: .java g :: U.frames.tail := hend
    have hW' : U.WarmedH s₂.vm := hW₂
    have hs₂ : s₂ = ((({ U with heap := s₂.heap, slotsUsed := s₂.slotsUsed } : State).setVm s₂.vm).setTop g).pushFrame (.throwing q) := by
      refine e3.trans ?_
      rw [hf₂, State.calling_eq h.top, State.setFrames_setFrames, State.pushFrame, State.frames_setTop _ hr', State.setTop_of_frames _ hr', State.setFrames_setFrames, hr]
      rfl
    have hsame : U.sameButNew ({ U with heap := s₂.heap, slotsUsed := s₂.slotsUsed } : State) L mc ms := by
      refine ⟨?_, q2, q3, q4, q5, q6⟩
      obtain ⟨t, ht, -⟩ := State.frames_cons hr
      show ({ U with heap := s₂.heap, slotsUsed := s₂.slotsUsed } : State) = { U.setFrames U.frames with heap := s₂.heap, slotsUsed := s₂.slotsUsed }
      rw [State.setFrames_self ht]
    subst hg
    refine Or.inr ⟨q, ⟨(({ U with heap := s₂.heap, slotsUsed := s₂.slotsUsed } : State).setVm s₂.vm), Ls ++ L, c0 + mc, s0 + ms⟩,
      ⟨X.admits, X.cas, X.clock, X.frames, X.room, X.hears, X.method, X.code, (X.here.setHeapUsed s₂.heap s₂.slotsUsed).setVm hW'.alike, X.tail, State.WarmedH.trans X.warmed hW', X.limits, X.bytes, X.same.trans (hsame.setVm s.vm)⟩,
      ⟨g, mk, s₂, L, E, ce, rfl, rfl, hx, hce, hcv, hcl, rfl, hL, rfl, rfl⟩, ?_⟩
    show Steps p.tables e below _ (((({ U with heap := s₂.heap, slotsUsed := s₂.slotsUsed } : State).setVm s₂.vm).setTop g).pushFrame (.throwing q))
    rw [← hs₂]
    exact hsteps
end Payer
section Calls
variable {p : Program} {l : Launch} {e : Env} {R : Room} {s : State} {m : MethodId} {args : Array Value} {below : List Frame} {meth : Method} {c : Code} {T : State} {locs : List Loc} {cells slots : Nat}
theorem vx_callV (X : Stand p l e R s m args below meth c T locs cells slots) (hexec : p.tables.exec = Jvm.exec) {own C : String} {index : Nat} {y : MethodName} {bytes : ByteArray} {maxL : Nat} {ret : Option FieldType}
    (hown : s.vm.findClass own = some m.cls) (hlink : (Cond.methodLink own index y).before args s = true) (hinst : (Cond.instanceMethod y).before args s = true) (hsel : (Cond.selects C y y).before args s = true)
    (hcode : (Cond.code y bytes maxL ret).before args s = true) (hy : y.cls ≠ "java/lang/invoke/MethodHandle" ∧ y.cls ≠ "java/lang/invoke/VarHandle")
    {W9 : Nat} {Pre : Pt → Array Value → Prop} {Post : Pt → Array Value → Option Value → Pt → Prop} {PostX : Pt → Array Value → Addr → Pt → Prop} (hK : vx_Back l R p e below s args y 3 W9 Pre Post PostX)
    {b : Addr} {cellB : Cell} (hcell : T.heap[b]? = some cellB) (hobj : cellB.vm.isStatics = false) (hcls : s.vm.findClass C = some cellB.cls)
    {g : JFrame} (hg : g.method = m) (hsize : g.locals.size = c.maxLocals) {argsL rest : List Value} (hlen : ∀ sig, parseMethodDescriptor y.desc = some sig → argsL.length = sig.parameters.length)
    (hstack : g.stack = argsL.reverse ++ .ref b :: rest) (hW : 2 * g.monitorRoom + (rest.map fun v => v.category).sum ≤ W9) (hdg : decode c.code g.pc = .ok (.invokevirtual index, 3))
    (hpre : ∀ vm₁, s.WarmedH vm₁ → Pre ⟨T.setVm vm₁, locs, cells, slots⟩ (Value.ref b :: argsL).toArray) :
    (∃ (v : Option Value) (vm₁ : Vm) (B : Pt), s.WarmedH vm₁ ∧ Stand p l e R s m args below meth c B.U B.locs B.cells B.slots ∧ Post ⟨T.setVm vm₁, locs, cells, slots⟩ (Value.ref b :: argsL).toArray v B ∧
      ∀ target, Steps p.tables e below (B.U.setTop { g with pc := g.pc + 3, stack := v.toList ++ rest }) target → Steps p.tables e below (T.setTop g) target) ∨
    (∃ (q : Addr) (vm₁ : Vm) (B : Pt), s.WarmedH vm₁ ∧ Stand p l e R s m args below meth c B.U B.locs B.cells B.slots ∧ PostX ⟨T.setVm vm₁, locs, cells, slots⟩ (Value.ref b :: argsL).toArray q B ∧
      Steps p.tables e below (T.setTop g) ((B.U.setTop { g with stack := rest }).pushFrame (.throwing q))) := by
  obtain ⟨mk, methM, hnamed, hmethM, hstM, habM⟩ := Cond.instanceMethod_spec hinst
  obtain ⟨methM', cM, hmethM', -, -, -, -, -, -, hsigM⟩ := Cond.code_spec hnamed hcode
  cases hmethM.symm.trans hmethM'
  obtain ⟨c2, r2, m2, q1, q2, q3, q4, kP, hkP, hkPi⟩ := Cond.selects_spec hsel
  cases hcls.symm.trans q1
  cases (State.methodFound?_of_named hnamed hy).symm.trans q2
  cases hnamed.symm.trans q3
  have hselP : selectMethod e.platform s.vm cellB.cls mk = .method mk := by rw [Launch.admits_selectMethod X.admits]; exact q4
  obtain ⟨vm₁, X₁, hstep₁⟩ := X.invokevirtual hexec hown hlink hnamed hmethM hstM hkP hkPi hy (a := b) (cell := cellB) hcell
    (fun z h => by rw [h] at hobj; cases hobj) hselP hmethM habM hkP hkPi (g := g) hg (argsL := argsL) (rest := rest) (hlen _ hsigM) hstack hdg
  rcases hK m meth c ⟨T.setVm vm₁, locs, cells, slots⟩ { g with stack := rest } (.invokevirtual index) mk (Value.ref b :: argsL).toArray X₁ hg hsize hdg hW (X₁.named hnamed) (hpre vm₁ X₁.warmed) with ⟨v, B, X', hpost, hsteps⟩ | ⟨q, B, X', hpost, hsteps⟩
  · exact Or.inl ⟨v, vm₁, B, X₁.warmed, X', hpost, fun target h => hstep₁ _ fun acts => by rw [doInvoke_state]; exact hsteps.trans h⟩
  · exact Or.inr ⟨q, vm₁, B, X₁.warmed, X', hpost, hstep₁ _ fun acts => by rw [doInvoke_state]; exact hsteps⟩
theorem vx_callS (X : Stand p l e R s m args below meth c T locs cells slots) (hexec : p.tables.exec = Jvm.exec) {own : String} {index : Nat} {y : MethodName} {bytes : ByteArray} {maxL : Nat} {ret : Option FieldType}
    (hown : s.vm.findClass own = some m.cls) (hlink : (Cond.methodLink own index y).before args s = true) (hstat : (Cond.static y).before args s = true) (hinit : (Cond.initialized y.cls).before args s = true)
    (hcode : (Cond.code y bytes maxL ret).before args s = true) (hy : y.cls ≠ "java/lang/invoke/MethodHandle" ∧ y.cls ≠ "java/lang/invoke/VarHandle")
    {W9 : Nat} {Pre : Pt → Array Value → Prop} {Post : Pt → Array Value → Option Value → Pt → Prop} {PostX : Pt → Array Value → Addr → Pt → Prop} (hK : vx_Back l R p e below s args y 3 W9 Pre Post PostX)
    {g : JFrame} (hg : g.method = m) (hsize : g.locals.size = c.maxLocals) {argsL rest : List Value} (hlen : ∀ sig, parseMethodDescriptor y.desc = some sig → argsL.length = sig.parameters.length)
    (hstack : g.stack = argsL.reverse ++ rest) (hW : 2 * g.monitorRoom + (rest.map fun v => v.category).sum ≤ W9) (hdg : decode c.code g.pc = .ok (.invokestatic index, 3))
    (hpre : ∀ vm₁, s.WarmedH vm₁ → Pre ⟨T.setVm vm₁, locs, cells, slots⟩ argsL.toArray) :
    (∃ (v : Option Value) (vm₁ : Vm) (B : Pt), s.WarmedH vm₁ ∧ Stand p l e R s m args below meth c B.U B.locs B.cells B.slots ∧ Post ⟨T.setVm vm₁, locs, cells, slots⟩ argsL.toArray v B ∧
      ∀ target, Steps p.tables e below (B.U.setTop { g with pc := g.pc + 3, stack := v.toList ++ rest }) target → Steps p.tables e below (T.setTop g) target) ∨
    (∃ (q : Addr) (vm₁ : Vm) (B : Pt), s.WarmedH vm₁ ∧ Stand p l e R s m args below meth c B.U B.locs B.cells B.slots ∧ PostX ⟨T.setVm vm₁, locs, cells, slots⟩ argsL.toArray q B ∧
      Steps p.tables e below (T.setTop g) ((B.U.setTop { g with stack := rest }).pushFrame (.throwing q))) := by
  obtain ⟨mk, hnamed⟩ := Cond.code_named hcode
  obtain ⟨methM, cM, hmethM, -, -, -, -, -, -, hsigM⟩ := Cond.code_spec hnamed hcode
  have hstatic : methM.isStatic = true := Cond.static_spec hnamed hmethM hstat
  obtain ⟨kP, hkP, -⟩ := className_of_methodNamed hnamed
  have hinitP : kP.init = .initialized := Cond.initialized_spec (findClass_of_methodNamed hnamed) hkP hinit
  obtain ⟨vm₁, X₁, hstep₁⟩ := X.invokestatic hexec hown hlink hnamed hmethM hstatic hkP hinitP hy (g := g) hg (argsL := argsL) (rest := rest) (hlen _ hsigM) hstack hdg
  rcases hK m meth c ⟨T.setVm vm₁, locs, cells, slots⟩ { g with stack := rest } (.invokestatic index) mk argsL.toArray X₁ hg hsize hdg hW (X₁.named hnamed) (hpre vm₁ X₁.warmed) with ⟨v, B, X', hpost, hsteps⟩ | ⟨q, B, X', hpost, hsteps⟩
  · exact Or.inl ⟨v, vm₁, B, X₁.warmed, X', hpost, fun target h => hstep₁ _ fun acts => by rw [doInvoke_state]; exact hsteps.trans h⟩
  · exact Or.inr ⟨q, vm₁, B, X₁.warmed, X', hpost, hstep₁ _ fun acts => by rw [doInvoke_state]; exact hsteps⟩
end Calls
theorem vx_cls {s : State} {T : State} {vm₁ : Vm} {E : String} {k : ClassId} (hW : s.WarmedH vm₁) (h : (T.setVm vm₁).vm.findClass E = some k) : s.vm.findClass E = some k := by
  have h1 : vm₁.findClass E = some k := h
  rw [hW.alike.findClass] at h1
  exact h1
/-- the method's frame g, with q thrown over it -/
def vx_W (p : Program) (l : Launch) (e : Env) (R : Room) (s : State) (m : MethodId) (args : Array Value) (below : List Frame) (meth : Method) (c : Code) (H : Heap) (locs : List Loc) (cells slots : Nat) (Q : State → Prop) (g : JFrame) (q : Addr) : Prop :=
  ∀ T : State, T.heap = H → Stand p l e R s m args below meth c T locs cells slots → ∃ t, Steps p.tables e below ((T.setTop g).pushFrame (.throwing q)) t ∧ Q t
def vx_Run (p : Program) (l : Launch) (e : Env) (R : Room) (s : State) (m : MethodId) (args : Array Value) (below : List Frame) (meth : Method) (c : Code) (H : Heap) (locs : List Loc) (cells slots mc ms : Nat) (g : JFrame) (rest : List Value) (Qa : State → Outcome → State → Prop) (XC : String → State → State → Prop) (free : Addr → Prop) : Prop :=
  ∀ T : State, T.heap = H → Stand p l e R s m args below meth c T locs cells slots →
    (∃ (v : Option Value) (st₀ t T' : State) (L : List Loc), st₀.heap = H ∧ Stand p l e R s m args below meth c T' (locs ++ L) (cells + mc) (slots + ms) ∧ (∀ q ∈ L, free q.base) ∧ T'.heap = t.heap ∧ T'.vm = t.vm ∧ Qa st₀ (.returned v) t ∧
      Goes p e below T g T' { g with pc := g.pc + 3, stack := v.toList ++ rest }) ∨
    (∃ (q : Addr) (st₀ t T' : State) (L : List Loc) (E : String) (ce : Cell), st₀.heap = H ∧ Stand p l e R s m args below meth c T' (locs ++ L) (cells + mc) (slots + ms) ∧ (∀ z ∈ L, free z.base) ∧ T'.heap = t.heap ∧ T'.vm = t.vm ∧ XC E st₀ t ∧ t.heap[q]? = some ce ∧ ce.vm = .none ∧ s.vm.findClass E = some ce.cls ∧
      Steps p.tables e below (T.setTop g) ((T'.setTop { g with stack := rest }).pushFrame (.throwing q)))
def vx_X {S : Type} (px : S → Prop) (B : String → S → State → Prop) (A : Nat → Prop) : String → State → State → Prop := fun E st t => ∃ u : S, px u ∧ B E u t ∧ va_F A st t
section Runs
variable {p : Program} {l : Launch} {e : Env} {R : Room} {s : State} {m : MethodId} {args : Array Value} {below : List Frame} {meth : Method} {c : Code} {H : Heap} {locs : List Loc} {cells slots : Nat}
variable {y : MethodName} {bytes cc : ByteArray} {maxL nL mc ms n index : Nat} {ret : Option FieldType} {ws : List Cond} {rm : Room} {Pc : Array Value → State → Prop} {Qc : Array Value → State → Outcome → State → Prop} {XC : String → State → State → Prop} {free : Addr → Prop} {Ts : List Cond} {own C : String} {b : Addr} {As rest : List Value} {g : JFrame}
theorem vx_callBack (cb : CallB R s args own index y bytes maxL ret ws rm mc ms n) (hM : vx_Met l y ws rm Pc Qc XC mc ms free) (hbl : FrameBlind Pc) : vx_Back l R p e below s args y 3 8 (PreOf R mc ms Pc) (PostOf Qc mc ms free) (vx_Post XC mc ms free) := by
  obtain ⟨hrc, hrs, hfr, hlo, hws, hcw, -, hini, -⟩ := cb
  exact vx_back (bytes := bytes) (maxL := maxL) (ret := ret) hM hbl hrc hrs hfr hlo hws hcw (fun a' U hW => word_at hW (Or.inl (by first | rfl | simp [Cond.onTables, Cond.keeps, Cond.steady])) hini)
theorem vx_runV (S : CallFix p m c cc nL s args Ts own) (hM : vx_Met l y ws rm Pc Qc XC mc ms free) (cw : CallW R s args own C index y bytes maxL ret ws rm mc ms n) (hp : PreV s H C b Pc As)
    (hg : g.method = m) (hn : As.length = n) (hsize : g.locals.size = nL) (hstack : g.stack = As.reverse ++ .ref b :: rest) (hW : 2 * g.monitorRoom + (rest.map fun v => v.category).sum ≤ 8) (hdg : decode cc g.pc = .ok (.invokevirtual index, 3)) (hf : cells + mc ≤ R.cells ∧ slots + ms ≤ R.slots) :
    vx_Run p l e R s m args below meth c H locs cells slots mc ms g rest (Qc (Value.ref b :: As).toArray) XC free := by
  have hK : vx_Back l R p e below s args y 3 8 (PreOf R mc ms Pc) (PostOf Qc mc ms free) (vx_Post XC mc ms free) := vx_callBack cw.1 hM hp.1
  obtain ⟨⟨-, -, -, -, -, -, hcode, -, hy, hlen, hl⟩, hin, hse⟩ := cw
  obtain ⟨hx, hb, hml, ho, -⟩ := S
  obtain ⟨-, ⟨cellB, hcB, hoB, hclB⟩, hPc⟩ := hp
  intro T hT X
  rcases vx_callV X hx (C := C) (bytes := bytes) (maxL := maxL) (ret := ret) ho hl hin hse hcode hy hK (by rw [hT]; exact hcB) hoB hclB hg (hsize.trans hml.symm) (argsL := As) (rest := rest) (fun sig h => hn.trans (hlen sig h)) hstack hW (by rw [hb]; exact hdg)
    (fun vm₁ hW₁ => ⟨hf.1, hf.2, hPc (T.setVm vm₁) hT hW₁⟩) with ⟨v, vm₁, ⟨U', l2, c2, s2⟩, hW₁, X', ⟨g', mk, t, L, e1, e2, hq, h1, hL, h2, h3⟩, st⟩ | ⟨q, vm₁, ⟨U', l2, c2, s2⟩, hW₁, X', ⟨g', mk, t, L, E, ce, e1, e2, hq, hce, hcv, hcl, h1, hL, h2, h3⟩, st⟩
  · dsimp only [Pt.U, Pt.locs, Pt.cells, Pt.slots] at X' e1 e2 h1 h2 h3 st
    subst h1; subst h2; subst h3
    exact Or.inl ⟨v, (T.setVm vm₁).calling g' mk (Value.ref b :: As).toArray, t, U', L, hT, X', hL, e1, e2, hq, st⟩
  · dsimp only [Pt.U, Pt.locs, Pt.cells, Pt.slots] at X' e1 e2 h1 h2 h3 st hcl
    subst h1; subst h2; subst h3
    exact Or.inr ⟨q, (T.setVm vm₁).calling g' mk (Value.ref b :: As).toArray, t, U', L, E, ce, hT, X', hL, e1, e2, hq, hce, hcv, vx_cls hW₁ hcl, st⟩
theorem vx_runS (S : CallFix p m c cc nL s args Ts own) (hM : vx_Met l y ws rm Pc Qc XC mc ms free) (cw : CallB R s args own index y bytes maxL ret ws rm mc ms n ∧ (Cond.static y).before args s = true) (hp : PreS s H Pc As)
    (hg : g.method = m) (hn : As.length = n) (hsize : g.locals.size = nL) (hstack : g.stack = As.reverse ++ rest) (hW : 2 * g.monitorRoom + (rest.map fun v => v.category).sum ≤ 8) (hdg : decode cc g.pc = .ok (.invokestatic index, 3)) (hf : cells + mc ≤ R.cells ∧ slots + ms ≤ R.slots) :
    vx_Run p l e R s m args below meth c H locs cells slots mc ms g rest (Qc As.toArray) XC free := by
  have hK : vx_Back l R p e below s args y 3 8 (PreOf R mc ms Pc) (PostOf Qc mc ms free) (vx_Post XC mc ms free) := vx_callBack cw.1 hM hp.1
  obtain ⟨⟨-, -, -, -, -, -, hcode, hini, hy, hlen, hl⟩, hstt⟩ := cw
  obtain ⟨hx, hb, hml, ho, -⟩ := S
  intro T hT X
  rcases vx_callS X hx (bytes := bytes) (maxL := maxL) (ret := ret) ho hl hstt hini hcode hy hK hg (hsize.trans hml.symm) (argsL := As) (rest := rest) (fun sig h => hn.trans (hlen sig h)) hstack hW (by rw [hb]; exact hdg)
    (fun vm₁ hW₁ => ⟨hf.1, hf.2, hp.2 (T.setVm vm₁) hT hW₁⟩) with ⟨v, vm₁, ⟨U', l2, c2, s2⟩, hW₁, X', ⟨g', mk, t, L, e1, e2, hq, h1, hL, h2, h3⟩, st⟩ | ⟨q, vm₁, ⟨U', l2, c2, s2⟩, hW₁, X', ⟨g', mk, t, L, E, ce, e1, e2, hq, hce, hcv, hcl, h1, hL, h2, h3⟩, st⟩
  · dsimp only [Pt.U, Pt.locs, Pt.cells, Pt.slots] at X' e1 e2 h1 h2 h3 st
    subst h1; subst h2; subst h3
    exact Or.inl ⟨v, (T.setVm vm₁).calling g' mk As.toArray, t, U', L, hT, X', hL, e1, e2, hq, st⟩
  · dsimp only [Pt.U, Pt.locs, Pt.cells, Pt.slots] at X' e1 e2 h1 h2 h3 st hcl
    subst h1; subst h2; subst h3
    exact Or.inr ⟨q, (T.setVm vm₁).calling g' mk As.toArray, t, U', L, E, ce, hT, X', hL, e1, e2, hq, hce, hcv, vx_cls hW₁ hcl, st⟩
end Runs
section Rows
variable {p : Program} {l : Launch} {e : Env} {R : Room} {s : State} {m : MethodId} {args : Array Value} {below : List Frame} {meth : Method} {c : Code} {H : Heap} {locs : List Loc} {cells slots : Nat} {Q : State → Prop}
variable {mc ms : Nat} {free : Addr → Prop} {A0 A1 : Nat → Prop} {H0 : Heap} {a : Array Value} {pc : Nat} {ls : Array Slot} {st0 rest : List Value}
theorem vx_keep {st₀ t T' : State} {L : List Loc} (h0 : st₀.heap = H) (e1 : T'.heap = t.heap) (hS : va_S A0 H0 H locs) (hA : ∀ q, q < H.size → A1 q → A0 q) (hf : ∀ q, free q → A0 q) (hL : ∀ q ∈ L, free q.base) (hF : va_F A1 st₀ t) :
    H.size ≤ T'.heap.size ∧ (∀ q : Nat, q < H.size → ¬ A1 q → T'.heap[q]? = H[q]?) ∧ va_S A0 H0 T'.heap (locs ++ L) := by
  obtain ⟨hz, hk⟩ := hF
  rw [h0] at hz hk
  exact ⟨by rw [e1]; exact hz, fun q h1 h2 => by rw [e1]; exact hk q h1 h2,
    ⟨Nat.le_trans hS.1 (by rw [e1]; exact hz), fun q h1 h2 => by rw [e1, hk q (Nat.lt_of_lt_of_le h1 hS.1) (fun z => h2 (hA q (Nat.lt_of_lt_of_le h1 hS.1) z))]; exact hS.2.1 q h1 h2, fun q hq => by
      rcases List.mem_append.mp hq with h | h
      · exact hS.2.2 q h
      · exact hf _ (hL q h)⟩⟩
theorem vx_calli {S SX : Type} {post : Int32 → S → Prop} {px : SX → Prop} {B : S → State → Prop} {BX : String → SX → State → Prop} {AX : Nat → Prop} (hr : vx_Run p l e R s m args below meth c H locs cells slots mc ms (F0 m pc ls st0) rest (va_Qi post B A1 a) (vx_X px BX AX) free) (hS : va_S A0 H0 H locs) (hA : ∀ q, q < H.size → A1 q → A0 q) (hf : ∀ q, free q → A0 q) (hAX : ∀ q, q < H.size → AX q → A0 q)
    (kx : ∀ (E : String) (ce : Cell) (q9 : Addr) (u : SX) (t : State) (H1 : Heap) (locs1 : List Loc), t.heap = H1 → s.vm.Alike t.vm → px u → BX E u t → H.size ≤ H1.size → (∀ q : Nat, q < H.size → ¬ AX q → H1[q]? = H[q]?) → va_S A0 H0 H1 locs1 → H1[q9]? = some ce → ce.vm = .none → s.vm.findClass E = some ce.cls → vx_W p l e R s m args below meth c H1 locs1 (cells + mc) (slots + ms) Q (F0 m pc ls rest) q9)
    (kk : ∀ (r : Int32) (u : S) (t : State) (H1 : Heap) (locs1 : List Loc), t.heap = H1 → s.vm.Alike t.vm → post r u → B u t → H.size ≤ H1.size → (∀ q : Nat, q < H.size → ¬ A1 q → H1[q]? = H[q]?) → va_S A0 H0 H1 locs1 → W p l e R s m args below meth c H1 locs1 (cells + mc) (slots + ms) Q (F0 m (pc + 3) ls (.int r :: rest))) : W p l e R s m args below meth c H locs cells slots Q (F0 m pc ls st0) := by
  intro T hT X
  rcases hr T hT X with ⟨v, st₀, t, T', L, h0, X', hL, e1, e2, ⟨⟨r, u, hv, hp, hb⟩, hF⟩, st⟩ | ⟨q, st₀, t, T', L, E, ce, h0, X', hL, e1, e2, ⟨u, hp, hb, hF⟩, hce, hcv, hcl, st⟩
  · cases hv
    obtain ⟨k1, k2, k3⟩ := vx_keep h0 e1 hS hA hf hL hF
    obtain ⟨t2, a1, b1⟩ := kk r u t T'.heap (locs ++ L) e1.symm (by rw [← e2]; exact X'.warmed.alike) hp hb k1 k2 k3 T' rfl X'
    exact ⟨t2, st t2 a1, b1⟩
  · obtain ⟨k1, k2, k3⟩ := vx_keep h0 e1 hS hAX hf hL hF
    obtain ⟨t2, a1, b1⟩ := kx E ce q u t T'.heap (locs ++ L) e1.symm (by rw [← e2]; exact X'.warmed.alike) hp hb k1 k2 k3 (by rw [e1]; exact hce) hcv hcl T' rfl X'
    exact ⟨t2, st.trans a1, b1⟩
theorem vx_calll {S SX : Type} {post : Int64 → S → Prop} {px : SX → Prop} {B : S → State → Prop} {BX : String → SX → State → Prop} {AX : Nat → Prop} (hr : vx_Run p l e R s m args below meth c H locs cells slots mc ms (F0 m pc ls st0) rest (va_Ql post B A1 a) (vx_X px BX AX) free) (hS : va_S A0 H0 H locs) (hA : ∀ q, q < H.size → A1 q → A0 q) (hf : ∀ q, free q → A0 q) (hAX : ∀ q, q < H.size → AX q → A0 q)
    (kx : ∀ (E : String) (ce : Cell) (q9 : Addr) (u : SX) (t : State) (H1 : Heap) (locs1 : List Loc), t.heap = H1 → s.vm.Alike t.vm → px u → BX E u t → H.size ≤ H1.size → (∀ q : Nat, q < H.size → ¬ AX q → H1[q]? = H[q]?) → va_S A0 H0 H1 locs1 → H1[q9]? = some ce → ce.vm = .none → s.vm.findClass E = some ce.cls → vx_W p l e R s m args below meth c H1 locs1 (cells + mc) (slots + ms) Q (F0 m pc ls rest) q9)
    (kk : ∀ (r : Int64) (u : S) (t : State) (H1 : Heap) (locs1 : List Loc), t.heap = H1 → s.vm.Alike t.vm → post r u → B u t → H.size ≤ H1.size → (∀ q : Nat, q < H.size → ¬ A1 q → H1[q]? = H[q]?) → va_S A0 H0 H1 locs1 → W p l e R s m args below meth c H1 locs1 (cells + mc) (slots + ms) Q (F0 m (pc + 3) ls (.long r :: rest))) : W p l e R s m args below meth c H locs cells slots Q (F0 m pc ls st0) := by
  intro T hT X
  rcases hr T hT X with ⟨v, st₀, t, T', L, h0, X', hL, e1, e2, ⟨⟨r, u, hv, hp, hb⟩, hF⟩, st⟩ | ⟨q, st₀, t, T', L, E, ce, h0, X', hL, e1, e2, ⟨u, hp, hb, hF⟩, hce, hcv, hcl, st⟩
  · cases hv
    obtain ⟨k1, k2, k3⟩ := vx_keep h0 e1 hS hA hf hL hF
    obtain ⟨t2, a1, b1⟩ := kk r u t T'.heap (locs ++ L) e1.symm (by rw [← e2]; exact X'.warmed.alike) hp hb k1 k2 k3 T' rfl X'
    exact ⟨t2, st t2 a1, b1⟩
  · obtain ⟨k1, k2, k3⟩ := vx_keep h0 e1 hS hAX hf hL hF
    obtain ⟨t2, a1, b1⟩ := kx E ce q u t T'.heap (locs ++ L) e1.symm (by rw [← e2]; exact X'.warmed.alike) hp hb k1 k2 k3 (by rw [e1]; exact hce) hcv hcl T' rfl X'
    exact ⟨t2, st.trans a1, b1⟩
theorem vx_callf {S SX : Type} {post : UInt32 → S → Prop} {px : SX → Prop} {B : S → State → Prop} {BX : String → SX → State → Prop} {AX : Nat → Prop} (hr : vx_Run p l e R s m args below meth c H locs cells slots mc ms (F0 m pc ls st0) rest (va_Qf post B A1 a) (vx_X px BX AX) free) (hS : va_S A0 H0 H locs) (hA : ∀ q, q < H.size → A1 q → A0 q) (hf : ∀ q, free q → A0 q) (hAX : ∀ q, q < H.size → AX q → A0 q)
    (kx : ∀ (E : String) (ce : Cell) (q9 : Addr) (u : SX) (t : State) (H1 : Heap) (locs1 : List Loc), t.heap = H1 → s.vm.Alike t.vm → px u → BX E u t → H.size ≤ H1.size → (∀ q : Nat, q < H.size → ¬ AX q → H1[q]? = H[q]?) → va_S A0 H0 H1 locs1 → H1[q9]? = some ce → ce.vm = .none → s.vm.findClass E = some ce.cls → vx_W p l e R s m args below meth c H1 locs1 (cells + mc) (slots + ms) Q (F0 m pc ls rest) q9)
    (kk : ∀ (r : UInt32) (u : S) (t : State) (H1 : Heap) (locs1 : List Loc), t.heap = H1 → s.vm.Alike t.vm → post r u → B u t → H.size ≤ H1.size → (∀ q : Nat, q < H.size → ¬ A1 q → H1[q]? = H[q]?) → va_S A0 H0 H1 locs1 → W p l e R s m args below meth c H1 locs1 (cells + mc) (slots + ms) Q (F0 m (pc + 3) ls (.float r :: rest))) : W p l e R s m args below meth c H locs cells slots Q (F0 m pc ls st0) := by
  intro T hT X
  rcases hr T hT X with ⟨v, st₀, t, T', L, h0, X', hL, e1, e2, ⟨⟨r, u, hv, hp, hb⟩, hF⟩, st⟩ | ⟨q, st₀, t, T', L, E, ce, h0, X', hL, e1, e2, ⟨u, hp, hb, hF⟩, hce, hcv, hcl, st⟩
  · cases hv
    obtain ⟨k1, k2, k3⟩ := vx_keep h0 e1 hS hA hf hL hF
    obtain ⟨t2, a1, b1⟩ := kk r u t T'.heap (locs ++ L) e1.symm (by rw [← e2]; exact X'.warmed.alike) hp hb k1 k2 k3 T' rfl X'
    exact ⟨t2, st t2 a1, b1⟩
  · obtain ⟨k1, k2, k3⟩ := vx_keep h0 e1 hS hAX hf hL hF
    obtain ⟨t2, a1, b1⟩ := kx E ce q u t T'.heap (locs ++ L) e1.symm (by rw [← e2]; exact X'.warmed.alike) hp hb k1 k2 k3 (by rw [e1]; exact hce) hcv hcl T' rfl X'
    exact ⟨t2, st.trans a1, b1⟩
theorem vx_calld {S SX : Type} {post : UInt64 → S → Prop} {px : SX → Prop} {B : S → State → Prop} {BX : String → SX → State → Prop} {AX : Nat → Prop} (hr : vx_Run p l e R s m args below meth c H locs cells slots mc ms (F0 m pc ls st0) rest (va_Qd post B A1 a) (vx_X px BX AX) free) (hS : va_S A0 H0 H locs) (hA : ∀ q, q < H.size → A1 q → A0 q) (hf : ∀ q, free q → A0 q) (hAX : ∀ q, q < H.size → AX q → A0 q)
    (kx : ∀ (E : String) (ce : Cell) (q9 : Addr) (u : SX) (t : State) (H1 : Heap) (locs1 : List Loc), t.heap = H1 → s.vm.Alike t.vm → px u → BX E u t → H.size ≤ H1.size → (∀ q : Nat, q < H.size → ¬ AX q → H1[q]? = H[q]?) → va_S A0 H0 H1 locs1 → H1[q9]? = some ce → ce.vm = .none → s.vm.findClass E = some ce.cls → vx_W p l e R s m args below meth c H1 locs1 (cells + mc) (slots + ms) Q (F0 m pc ls rest) q9)
    (kk : ∀ (r : UInt64) (u : S) (t : State) (H1 : Heap) (locs1 : List Loc), t.heap = H1 → s.vm.Alike t.vm → post r u → B u t → H.size ≤ H1.size → (∀ q : Nat, q < H.size → ¬ A1 q → H1[q]? = H[q]?) → va_S A0 H0 H1 locs1 → W p l e R s m args below meth c H1 locs1 (cells + mc) (slots + ms) Q (F0 m (pc + 3) ls (.double r :: rest))) : W p l e R s m args below meth c H locs cells slots Q (F0 m pc ls st0) := by
  intro T hT X
  rcases hr T hT X with ⟨v, st₀, t, T', L, h0, X', hL, e1, e2, ⟨⟨r, u, hv, hp, hb⟩, hF⟩, st⟩ | ⟨q, st₀, t, T', L, E, ce, h0, X', hL, e1, e2, ⟨u, hp, hb, hF⟩, hce, hcv, hcl, st⟩
  · cases hv
    obtain ⟨k1, k2, k3⟩ := vx_keep h0 e1 hS hA hf hL hF
    obtain ⟨t2, a1, b1⟩ := kk r u t T'.heap (locs ++ L) e1.symm (by rw [← e2]; exact X'.warmed.alike) hp hb k1 k2 k3 T' rfl X'
    exact ⟨t2, st t2 a1, b1⟩
  · obtain ⟨k1, k2, k3⟩ := vx_keep h0 e1 hS hAX hf hL hF
    obtain ⟨t2, a1, b1⟩ := kx E ce q u t T'.heap (locs ++ L) e1.symm (by rw [← e2]; exact X'.warmed.alike) hp hb k1 k2 k3 (by rw [e1]; exact hce) hcv hcl T' rfl X'
    exact ⟨t2, st.trans a1, b1⟩
theorem vx_callv {S SX : Type} {post : S → Prop} {px : SX → Prop} {B : S → State → Prop} {BX : String → SX → State → Prop} {AX : Nat → Prop} (hr : vx_Run p l e R s m args below meth c H locs cells slots mc ms (F0 m pc ls st0) rest (va_Qv post B A1 a) (vx_X px BX AX) free) (hS : va_S A0 H0 H locs) (hA : ∀ q, q < H.size → A1 q → A0 q) (hf : ∀ q, free q → A0 q) (hAX : ∀ q, q < H.size → AX q → A0 q)
    (kx : ∀ (E : String) (ce : Cell) (q9 : Addr) (u : SX) (t : State) (H1 : Heap) (locs1 : List Loc), t.heap = H1 → s.vm.Alike t.vm → px u → BX E u t → H.size ≤ H1.size → (∀ q : Nat, q < H.size → ¬ AX q → H1[q]? = H[q]?) → va_S A0 H0 H1 locs1 → H1[q9]? = some ce → ce.vm = .none → s.vm.findClass E = some ce.cls → vx_W p l e R s m args below meth c H1 locs1 (cells + mc) (slots + ms) Q (F0 m pc ls rest) q9)
    (kk : ∀ (u : S) (t : State) (H1 : Heap) (locs1 : List Loc), t.heap = H1 → s.vm.Alike t.vm → post u → B u t → H.size ≤ H1.size → (∀ q : Nat, q < H.size → ¬ A1 q → H1[q]? = H[q]?) → va_S A0 H0 H1 locs1 → W p l e R s m args below meth c H1 locs1 (cells + mc) (slots + ms) Q (F0 m (pc + 3) ls (rest))) : W p l e R s m args below meth c H locs cells slots Q (F0 m pc ls st0) := by
  intro T hT X
  rcases hr T hT X with ⟨v, st₀, t, T', L, h0, X', hL, e1, e2, ⟨⟨u, hv, hp, hb⟩, hF⟩, st⟩ | ⟨q, st₀, t, T', L, E, ce, h0, X', hL, e1, e2, ⟨u, hp, hb, hF⟩, hce, hcv, hcl, st⟩
  · cases hv
    obtain ⟨k1, k2, k3⟩ := vx_keep h0 e1 hS hA hf hL hF
    obtain ⟨t2, a1, b1⟩ := kk u t T'.heap (locs ++ L) e1.symm (by rw [← e2]; exact X'.warmed.alike) hp hb k1 k2 k3 T' rfl X'
    exact ⟨t2, st t2 a1, b1⟩
  · obtain ⟨k1, k2, k3⟩ := vx_keep h0 e1 hS hAX hf hL hF
    obtain ⟨t2, a1, b1⟩ := kx E ce q u t T'.heap (locs ++ L) e1.symm (by rw [← e2]; exact X'.warmed.alike) hp hb k1 k2 k3 (by rw [e1]; exact hce) hcv hcl T' rfl X'
    exact ⟨t2, st.trans a1, b1⟩
/-- caught by the row x of this method's table; the rows ahead don't take it -/
theorem vx_catch {own name : String} {E : String} {ce : Cell} {q : Addr} (hown : s.vm.findClass own = some m.cls) (pre : List ExceptionTableEntry) (x : ExceptionTableEntry) (suf : List ExceptionTableEntry) (hsplit : c.exceptionTable.toList = pre ++ x :: suf)
    (hpass : ∀ z ∈ pre, covers z pc = false ∨ (z.catchType ≠ 0 ∧ ∃ nm : String, (Cond.classLink own z.catchType nm).before args s = true ∧ va_Nc E nm s)) (hx : covers x pc = true) (h0 : x.catchType ≠ 0)
    (hlink : (Cond.classLink own x.catchType name).before args s = true) (hcast : (Cond.castable E name).before args s = true) (hcell : H[q]? = some ce) (hv : ce.vm = .none) (hcl : s.vm.findClass E = some ce.cls)
    (kk : W p l e R s m args below meth c H locs cells slots Q (F0 m x.handlerPc ls [.ref q])) : vx_W p l e R s m args below meth c H locs cells slots Q (F0 m pc ls rest) q := by
  intro T hT X
  have hpl : e.platform.magicAccessors = ({} : Platform).magicAccessors := by rw [X.admits.platform]
  obtain ⟨c3, c4, hc3, hc4, hasg⟩ := Cond.castable_spec hcast
  cases Option.some.inj (hc3.symm.trans hcl)
  obtain ⟨c5, hc5, hcl5⟩ := Cond.classLink_spec hown hlink e.platform hpl
  cases Option.some.inj (hc4.symm.trans hc5)
  obtain ⟨vm', X', st⟩ := X.thenCaughtThrough q (g := F0 m pc ls rest) rfl (Steps.refl _) (by rw [hT]; exact hcell) (by rw [hv]; rfl) (by obtain ⟨k9, h9, -⟩ := Vm.findClass_spec hcl; exact ⟨k9, h9⟩) pre x suf hsplit
    (fun z hz => by
      rcases hpass z hz with h | ⟨hz0, nm, hl1, hn1⟩
      · exact Or.inl h
      · obtain ⟨c6, hc6, hcl6⟩ := Cond.classLink_spec hown hl1 e.platform hpl
        obtain ⟨a8, b8, h1, h2, h3⟩ := hn1
        cases Option.some.inj (h1.symm.trans hcl)
        cases Option.some.inj (h2.symm.trans hc6)
        exact Or.inr ⟨hz0, _, hcl6, h3⟩) hx (Or.inr ⟨h0, c4, hcl5, hasg⟩)
  obtain ⟨t, a1, b1⟩ := kk (T.setVm vm') hT X'
  exact ⟨t, st.trans a1, b1⟩
end Rows
section Ends
variable {p : Program} {l : Launch} {e : Env} {R : Room} {s : State} {m : MethodId} {args : Array Value} {below : List Frame} {meth : Method} {c : Code} {H : Heap} {locs : List Loc} {cells slots : Nat} {Q : State → Prop}
variable {mc ms : Nat} {free : Addr → Prop} {A0 A1 : Nat → Prop} {H0 : Heap} {a : Array Value} {ls : Array Slot} {st0 rest : List Value}
variable {Qc : Array Value → State → Outcome → State → Prop} {XC : String → State → State → Prop}
/-- what a body that may throw owes at its end -/
def vx_MQ (below : List Frame) (Qc : Array Value → State → Outcome → State → Prop) (XC : String → State → State → Prop) (a : Array Value) (s : State) (mc ms : Nat) (free : Addr → Prop) : State → Prop := fun t =>
  ∃ o, t.status = .running ∧ Ended t below o ∧ vx_Q Qc XC mc ms free a s o t
theorem vx_ret {g : JFrame} {mc ms : Nat} (k : W p l e R s m args below meth c H locs cells slots (MQ below Qc args s mc ms free) g) : W p l e R s m args below meth c H locs cells slots (vx_MQ below Qc XC args s mc ms free) g := by
  intro T hT X
  obtain ⟨t, a1, o, b1, b2, b3, b4⟩ := k T hT X
  exact ⟨t, a1, o, b1, b2, Or.inl ⟨b3, b4⟩⟩
/-- not caught here: it goes on to the caller -/
theorem vx_widen {g : JFrame} {q : Addr} {k n : Nat} (h1 : cells ≤ k) (h2 : slots ≤ n) (kk : vx_W p l e R s m args below meth c H locs k n Q g q) : vx_W p l e R s m args below meth c H locs cells slots Q g q := fun T hT X => kk T hT (stand_widen X h1 h2)
theorem vx_out {pc : Nat} {E : String} {ce : Cell} {q : Addr} {mc ms : Nat} (hout : ∀ x ∈ c.exceptionTable.toList, covers x pc = false) (hlocks : meth.locks = false) (hcell : H[q]? = some ce) (hv : ce.vm = .none) (hcl : s.vm.findClass E = some ce.cls)
    (hx : ∀ t : State, t.heap = H → s.vm.Alike t.vm → XC E s t) (hf : ∀ z ∈ locs, free z.base) (hc : cells ≤ mc) (hs : slots ≤ ms) :
    vx_W p l e R s m args below meth c H locs cells slots (vx_MQ below Qc XC args s mc ms free) (F0 m pc ls rest) q := by
  intro T hT X
  obtain ⟨st1, hrun, hend, hW, hsm⟩ := X.leaveThrown q (g := F0 m pc ls rest) rfl rfl rfl hout hlocks
  have hcell9 : (T.setFrames (.throwing q :: below)).heap[q]? = some ce := by
    show T.heap[q]? = some ce
    rw [hT]; exact hcell
  exact ⟨_, st1, .threw q, hrun, hend, Or.inr ⟨q, rfl, E, ce, locs, hx _ hT hW.alike, hcell9, hv, hcl, hW, hsm.mono hc hs, hf⟩⟩
theorem vx_frame {U : State} {k n : Nat} (h : s.sameButNew ({ U with vm := s.vm } : State) locs k n) : s.heap.size ≤ U.heap.size ∧ ∀ q : Nat, q < s.heap.size → (∀ z ∈ locs, z.base ≠ q) → U.heap[q]? = s.heap[q]? := by
  obtain ⟨-, h2, -, -, -, h6⟩ := h
  refine ⟨h2, fun q hq hz => ?_⟩
  obtain ⟨c9, e1, e2, e3, e4⟩ := h6 q _ (Array.getElem?_eq_getElem hq)
  have hs : c9.slots = (s.heap[q]).slots := Array.ext_getElem? fun i => e4 i fun hm => hz _ hm rfl
  have h9 : c9 = s.heap[q] := by
    rw [hs] at e2
    exact e2
  have e5 : U.heap[q]? = some c9 := e1
  rw [e5, h9, Array.getElem?_eq_getElem hq]
/-- the words of a throw but the four that speak of the heap -/
def vx_no (w : Cond) : Bool := decide (w ≠ .isRef (.static Bundle.tN "UNASSIGNED_STACK" Bundle.steD)) && decide (w ≠ .isRef (.static Bundle.tN "SUPPRESSED_SENTINEL" Bundle.listD)) && decide (w ≠ .laysStatic Bundle.tN "UNASSIGNED_STACK" Bundle.steD) && decide (w ≠ .laysStatic Bundle.tN "SUPPRESSED_SENTINEL" Bundle.listD)
def vx_at0 (own : String) (ic : Nat) (X : String) (names : List String) : List Cond := (Bundle.ownAtoms0 own ic X names).filter vx_no
def vx_atS (own : String) (ic : Nat) (X : String) (names : List String) : List Cond := (Bundle.ownAtoms own ic X names).filter vx_no
/-- a word that the tables alone decide, or a good one -/
def vx_ot (w : Cond) : Bool := w.onTables || goodWord w
theorem vx_ot_at {args a' : Array Value} {s U : State} {w : Cond} (hW : s.WarmedH U.vm) (hvm : s.vm = U.vm) (hg : vx_ot w = true) (h : w.before args s = true) : w.before a' U = true := by
  simp only [vx_ot, Bool.or_eq_true] at hg
  rcases hg with hg | hg
  · exact va_tabs hg hvm h
  · exact word_at hW (good_of_word hg) h
/-- a list's words: the good ones out of the method's own list, the others by premises of their own -/
theorem vx_hat {args : Array Value} {s : State} {L B : List Cond} (h1 : ∀ w ∈ L.filter goodWord, w.before args s = true) (h2 : ∀ w ∈ L.filter (fun w => !goodWord w), w ∈ B) (h3 : ∀ w ∈ B, w.before args s = true) : ∀ w ∈ L, w.before args s = true := by
  intro w hw
  by_cases g : goodWord w = true
  · exact h1 w (List.mem_filter.mpr ⟨hw, g⟩)
  · refine h3 w (h2 w (List.mem_filter.mpr ⟨hw, ?_⟩))
    show (!goodWord w) = true
    cases hgw : goodWord w
    · rfl
    · exact absurd hgw g
theorem vx_c {args : Array Value} {s : State} {w : Cond} {B : List Cond} (h : w.before args s = true) (t : ∀ w ∈ B, w.before args s = true) : ∀ w' ∈ w :: B, w'.before args s = true := fun w' h' => (List.mem_cons.mp h').elim (fun e => by rw [e]; exact h) (t w')
theorem vx_n {args : Array Value} {s : State} : ∀ w ∈ ([] : List Cond), w.before args s = true := fun _ h => nomatch h
theorem vx_own {args : Array Value} {s : State} {L : List Cond} (h1 : ∀ w ∈ L.filter vx_no, w.before args s = true)
    (hU : (Cond.isRef (.static Bundle.tN "UNASSIGNED_STACK" Bundle.steD)).before args s = true) (hN : (Cond.isRef (.static Bundle.tN "SUPPRESSED_SENTINEL" Bundle.listD)).before args s = true)
    (lU : (Cond.laysStatic Bundle.tN "UNASSIGNED_STACK" Bundle.steD).before args s = true) (lN : (Cond.laysStatic Bundle.tN "SUPPRESSED_SENTINEL" Bundle.listD).before args s = true) : ∀ w ∈ L, w.before args s = true := by
  intro w hw
  by_cases e1 : w = .isRef (.static Bundle.tN "UNASSIGNED_STACK" Bundle.steD)
  · rw [e1]; exact hU
  · by_cases e2 : w = .isRef (.static Bundle.tN "SUPPRESSED_SENTINEL" Bundle.listD)
    · rw [e2]; exact hN
    · by_cases e3 : w = .laysStatic Bundle.tN "UNASSIGNED_STACK" Bundle.steD
      · rw [e3]; exact lU
      · by_cases e4 : w = .laysStatic Bundle.tN "SUPPRESSED_SENTINEL" Bundle.listD
        · rw [e4]; exact lN
        · exact h1 w (List.mem_filter.mpr ⟨hw, by unfold vx_no; rw [decide_eq_true e1, decide_eq_true e2, decide_eq_true e3, decide_eq_true e4]; rfl⟩)
/-- where a static field lies, its class's statics cell in H -/
def vx_L (C n d : String) (A : Nat → Prop) (U : State) (H : Heap) : Prop := ∃ (c : ClassId) (k : Class) (i : Nat) (f : Field) (a : Nat) (cell : Cell), U.vm.findClass C = some c ∧ U.fieldFound? C n d = some (c, k, i, f) ∧ f.isStatic = true ∧ k.statics = some a ∧ H[a]? = some cell ∧ cell.vm.isStatics = true ∧ cell.cls = c ∧ f.slot < cell.slots.size ∧ k.staticTypes[f.slot]? = some f.type ∧ ¬ A a
theorem vx_L.moved {C n d : String} {A : Nat → Prop} {u U : State} {H : Heap} (hvm : u.vm.Alike U.vm) (h : vx_L C n d A u H) : vx_L C n d A U H := by
  obtain ⟨c, k, i, f, a, cell, h1, h2, h3, h4, h5, h6, h7, h8, h9, h10⟩ := h
  obtain ⟨k', hi', he⟩ := State.fieldFound?_setVm hvm h2
  exact ⟨c, k', i, f, a, cell, by rw [hvm.findClass]; exact h1, hi', h3, by rw [he]; exact h4, h5, h6, h7, h8, by rw [he]; exact h9, h10⟩
theorem vx_L.kept {C n d : String} {A : Nat → Prop} {U : State} {H H1 : Heap} (h : vx_L C n d A U H) (hq : ∀ a : Nat, a < H.size → ¬ A a → H1[a]? = H[a]?) : vx_L C n d A U H1 := by
  obtain ⟨c, k, i, f, a, cell, h1, h2, h3, h4, h5, h6, h7, h8, h9, h10⟩ := h
  exact ⟨c, k, i, f, a, cell, h1, h2, h3, h4, by rw [hq a (Array.getElem?_eq_some_iff.mp h5).1 h10]; exact h5, h6, h7, h8, h9, h10⟩
theorem vx_L.narrow {C n d : String} {A B : Nat → Prop} {U : State} {H : Heap} (h : vx_L C n d A U H) (hAB : ∀ q, B q → A q) : vx_L C n d B U H := by
  obtain ⟨c, k, i, f, a, cell, h1, h2, h3, h4, h5, h6, h7, h8, h9, h10⟩ := h
  exact ⟨c, k, i, f, a, cell, h1, h2, h3, h4, h5, h6, h7, h8, h9, fun z => h10 (hAB _ z)⟩
theorem vx_L.word {C n d : String} {A : Nat → Prop} {s : State} {args : Array Value} (h : vx_L C n d A s s.heap) : (Cond.laysStatic C n d).before args s = true := by
  obtain ⟨c, k, i, f, a, cell, h1, h2, h3, h4, h5, h6, h7, h8, h9, -⟩ := h
  show (Cond.laysStatic C n d).holds args s none s [] = true
  exact Cond.laysStatic_of h1 h2 h3 h4 h5 h6 h7 h8 h9
/-- .. and what it holds: null or some reference -/
def vx_Zq (C n d : String) (A : Nat → Prop) (U : State) (H : Heap) : Prop := va_Zq C n d A U H ∧ vx_L C n d A U H
theorem vx_Zq.moved {C n d : String} {A : Nat → Prop} {u U : State} {H : Heap} (hvm : u.vm.Alike U.vm) (h : vx_Zq C n d A u H) : vx_Zq C n d A U H := ⟨va_Zq.moved hvm h.1, vx_L.moved hvm h.2⟩
theorem vx_Zq.kept {C n d : String} {A : Nat → Prop} {U : State} {H H1 : Heap} (h : vx_Zq C n d A U H) (hq : ∀ a : Nat, a < H.size → ¬ A a → H1[a]? = H[a]?) : vx_Zq C n d A U H1 := ⟨va_Zq.kept h.1 hq, vx_L.kept h.2 hq⟩
theorem vx_Zq.narrow {C n d : String} {A B : Nat → Prop} {U : State} {H : Heap} (h : vx_Zq C n d A U H) (hAB : ∀ q, B q → A q) : vx_Zq C n d B U H := ⟨va_Zq.narrow h.1 hAB, vx_L.narrow h.2 hAB⟩
theorem vx_Zqof {args : Array Value} {s : State} {C n d : String} {A : Nat → Prop} (hl : (Cond.laysStatic C n d).before args s = true) (hini : (Cond.initialized C).before args s = true) (h : (Cond.isRef (.static C n d)).before args s = true) (hA : ∀ a : Nat, a < s.heap.size → ¬ A a) : vx_Zq C n d A s s.heap := by
  refine ⟨va_Zqof hl hini h hA, ?_⟩
  obtain ⟨c, k, i, f, a, cell, h1, h2, h3, h4, h5, h6, h7, h8, h9⟩ := Cond.laysStatic_spec hl
  exact ⟨c, k, i, f, a, cell, h1, h2, h3, h4, h5, h6, h7, h8, h9, hA a (Array.getElem?_eq_some_iff.mp h5).1⟩
theorem vx_isRef {C n d : String} {v : Value} {A : Nat → Prop} {s : State} {args : Array Value} (h : va_Z C n d v A s s.heap) (hv : v.isRef = true) : (Cond.isRef (.static C n d)).before args s = true := by
  obtain ⟨cf, kf, fi, f, a, cell, h1, h2, h3, h4, h5, h6, h7, -⟩ := h
  have he : (Term.static C n d).eval args s none [] s = some v := by
    simp [Term.eval, State.fieldNamed?, h1, h2, h4, h5, h6, h7]
  simp only [Cond.before, Cond.holds, Cond.value, he]
  cases v <;> simp_all [Value.isRef]
theorem vx_isRefq {C n d : String} {A : Nat → Prop} {s : State} {args : Array Value} (h : va_Zq C n d A s s.heap) : (Cond.isRef (.static C n d)).before args s = true := by
  rcases h with h | ⟨t, h⟩
  · exact vx_isRef h rfl
  · exact vx_isRef h rfl
/-- the same frame, seen from here: as if the method were called anew in this heap -/
theorem vx_rebase {T : State} (X : Stand p l e R s m args below meth c T locs cells slots) {R' : Room} (hf : R'.frames ≤ R.frames) (hl : R'.locals ≤ R.locals) (hc : cells + R'.cells ≤ R.cells) (hs : slots + R'.slots ≤ R.slots) :
    Stand p l e R' ((T.setVm s.vm).setFrames (.invoking m args :: below)) m args below meth c T [] 0 0 := by
  have htop : (T.setVm s.vm).topJava?.isSome := X.here.top
  have hF : ((T.setVm s.vm).setFrames (.invoking m args :: below)).frames = .invoking m args :: below := State.frames_setFrames _ (State.cur_lt_of_top htop)
  obtain ⟨g₀, hg0⟩ := Option.isSome_iff_exists.mp htop
  obtain ⟨r, hr⟩ := State.topJava?_eq_some.mp hg0
  have hl9 : e.platform.stackLimits (T.setVm s.vm).me = e.platform.stackLimits s.me := X.limits
  have hb9 : (T.setVm s.vm).me.stackBytes = s.me.stackBytes := X.bytes
  refine ⟨X.admits, X.cas, X.clock, hF, ?_, X.hears, X.method, X.code, X.here, X.tail, X.warmed, ?_, ?_, ?_⟩
  · have h := X.room
    have hU : ((T.setVm s.vm).setFrames (.invoking m args :: below)).localsInUse = s.localsInUse := by
      rw [State.localsInUse_invoking hF (meth := meth) (c := c) X.method X.code, State.localsInUse_invoking X.frames X.method X.code]
    simp only [State.hasRoom, Bool.and_eq_true, decide_eq_true_eq] at h ⊢
    obtain ⟨⟨⟨⟨h1, h2, h3, h4, h5, h6⟩, h7⟩, h8⟩, h9⟩ := h
    rw [X.frames, List.length_cons] at h2 h3
    have q1 := X.heapSize
    have q2 := X.used
    simp only [hF, hU, List.length_cons, State.stackLimits_setFrames, State.stackBytes_setFrames, hl9, hb9]
    refine ⟨⟨⟨⟨by omega, by omega, by omega, by omega, by omega, h6⟩, ?_⟩, ?_⟩, X.book⟩
    · show T.heap.size + R'.cells ≤ e.platform.maxCells
      omega
    · show T.slotsUsed + R'.slots ≤ e.platform.maxSlots
      omega
  · rw [State.stackLimits_setFrames]; rfl
  · rw [State.stackBytes_setFrames]; rfl
  · refine ⟨?_, Nat.le_refl _, Nat.le_refl _, ?_, ?_, fun a c9 h9 => ⟨c9, h9, rfl, rfl, fun _ _ => rfl⟩⟩
    · obtain ⟨t, ht, -⟩ := State.frames_cons hr
      show T.setVm s.vm = { ((T.setVm s.vm).setFrames (.invoking m args :: below)).setFrames (T.setVm s.vm).frames with heap := T.heap, slotsUsed := T.slotsUsed }
      rw [State.setFrames_setFrames, State.setFrames_self ht]
      rfl
    · show T.slotsUsed = T.slotsUsed + ((T.heap.toList.drop T.heap.size).map (·.slots.size)).sum
      rw [List.drop_eq_nil_of_le (Nat.le_of_eq Array.length_toList)]
      rfl
    · show ((T.heap.toList.drop T.heap.size).map (·.slots.size)).sum ≤ 0
      rw [List.drop_eq_nil_of_le (Nat.le_of_eq Array.length_toList)]
      exact Nat.le_refl _
/-- 'throw new E()': new; dup; invokespecial; athrow -/
theorem vx_throw0 {cc : ByteArray} {pc : Nat} (hexec : p.tables.exec = Jvm.exec) (hb : c.code = cc) (hl : l.stackTraces = false) {own cls : String} {names : List String} {ik ic mc ms : Nat} {A : Nat → Prop}
    (hown : s.vm.findClass own = some m.cls) (hcls : Bundle.fit cls = true) (hnames : ∀ n ∈ names, Bundle.fit n = true)
    (hk : (Cond.classLink own ik cls).before args s = true) (hini : (Cond.initialized cls).before args s = true) (hat : ∀ w ∈ vx_at0 own ic cls names, w.before args s = true)
    (hgood : ∀ w ∈ Cond.classLink own ik cls :: Cond.initialized cls :: vx_at0 own ic cls names, vx_ot w = true)
    (hU : vx_Zq Bundle.tN "UNASSIGNED_STACK" Bundle.steD A s s.heap) (hN : vx_Zq Bundle.tN "SUPPRESSED_SENTINEL" Bundle.listD A s s.heap) (hS : va_S A s.heap H locs) (hsize : ls.size = c.maxLocals)
    (d0 : decode cc pc = .ok (.new ik, 3)) (d3 : decode cc (pc + 3) = .ok (.dup, 1)) (d4 : decode cc (pc + 4) = .ok (.invokespecial ic, 3)) (d7 : decode cc (pc + 7) = .ok (.athrow, 1))
    (hout : ∀ x ∈ c.exceptionTable.toList, covers x (pc + 7) = false)
    (hRframes : names.length + 3 < R.frames) (hRlocals : (rest.map fun v => v.category).sum + (13 * (names.length + 1) + 42) ≤ R.locals) (hRcells : cells + 1 ≤ R.cells) (hRslots : slots + 6 ≤ R.slots) (hlocks : meth.locks = false)
    (hx : ∀ t : State, s.vm.Alike t.vm → H.size ≤ t.heap.size → (∀ q : Nat, q < H.size → t.heap[q]? = H[q]?) → XC cls s t)
    (hf : ∀ z ∈ locs, free z.base) (hc : cells + 1 ≤ mc) (hs : slots + 6 ≤ ms) :
    W p l e R s m args below meth c H locs cells slots (vx_MQ below Qc XC args s mc ms free) (F0 m pc ls rest) := by
  intro T hT X
  have htr : e.platform.stackTraces = false := (show e.platform.stackTraces = l.stackTraces by rw [X.admits.platform]).trans hl
  have Y := vx_rebase X (R' := { frames := R.frames, locals := R.locals, cells := 1, slots := 6 }) (Nat.le_refl _) (Nat.le_refl _) hRcells hRslots
  obtain ⟨s', hA⟩ : ∃ z, z = (T.setVm s.vm).setFrames (.invoking m args :: below) := ⟨_, rfl⟩
  rw [← hA] at Y
  have hvm : s'.vm = s.vm := by rw [hA]; rfl
  have hhp : s'.heap = H := by rw [hA]; exact hT
  have hW0 : s.WarmedH s'.vm := by rw [hvm]; exact State.WarmedH.refl s
  have hat' : ∀ w ∈ vx_at0 own ic cls names, w.before args s' = true := fun w hw => vx_ot_at hW0 hvm.symm (hgood w (List.mem_cons_of_mem _ (List.mem_cons_of_mem _ hw))) (hat w hw)
  have hk' : (Cond.classLink own ik cls).before args s' = true := vx_ot_at hW0 hvm.symm (hgood _ List.mem_cons_self) hk
  have hini' : (Cond.initialized cls).before args s' = true := vx_ot_at hW0 hvm.symm (hgood _ (List.mem_cons_of_mem _ List.mem_cons_self)) hini
  have hU' : vx_Zq Bundle.tN "UNASSIGNED_STACK" Bundle.steD A s' s'.heap := by rw [hhp]; exact vx_Zq.moved hW0.alike (hU.kept hS.2.1)
  have hN' : vx_Zq Bundle.tN "SUPPRESSED_SENTINEL" Bundle.listD A s' s'.heap := by rw [hhp]; exact vx_Zq.moved hW0.alike (hN.kept hS.2.1)
  have h : ∀ w ∈ Bundle.ownAtoms0 own ic cls names, w.before args s' = true := vx_own hat' (vx_isRefq hU'.1) (vx_isRefq hN'.1) hU'.2.word hN'.2.word
  have hown' : s'.vm.findClass own = some m.cls := by rw [hvm]; exact hown
  have hins : (Cond.instantiable cls 6).before args s' = true := h _ (by simp [Bundle.ownAtoms0])
  obtain ⟨vm₁, cX, kX, hfX, hkX, -, -, X₁, st1⟩ := Y.newCold hexec (own := own) (C := cls) (index := ik) (n := 6) hown' hk' hins hini'
    (g := F0 m pc ls rest) rfl (by rw [hb]; exact d0) (Nat.le_refl _) (Nat.le_refl _)
  generalize hT1 : (T.setVm vm₁).pushCell { cls := cX, slots := kX.instanceTypes.map defaultValue, vm := .none } = T1 at X₁ st1
  have hcat : (Value.ref T.heap.size).category = 1 := rfl
  have hcellA : T1.heap[T.heap.size]? = some (freshCell cX kX) := by rw [← hT1]; exact State.heap_pushCell_size _ _
  have d3' : decode c.code (pc + 3) = .ok (.dup, 1) := by rw [hb]; exact d3
  obtain ⟨U, hsteps, hrun, hend, hW, hsame, ce, hce, hO⟩ := X₁.ctorThrow0 hexec htr (own := own) (cls := cls) (names := names) (ic := ic) hown' hcls hnames h (fun x hx => nomatch hx) hfX hkX hcellA (by rw [hhp, hT]; exact Nat.le_refl _)
    (g := { method := m, pc := pc + 4, locals := ls, stack := .ref T.heap.size :: .ref T.heap.size :: rest, locked := none }) rfl hsize rfl rfl (rest := rest) rfl
    (by rw [hb]; exact d4) (by rw [hb]; exact d7) hout hRframes (by simp only [List.map_cons, List.sum_cons, hcat]; omega) hlocks
  obtain ⟨f1, f2⟩ := vx_frame hsame
  rw [hhp] at f1 f2
  have hWs : s.WarmedH U.vm := State.WarmedH.trans hW0 hW
  have hcl : s.vm.findClass cls = some ce.cls := by
    have h9 := hO.cls
    rw [hvm] at h9
    exact h9
  have hall : s.sameButNew ({ U with vm := s.vm } : State) locs mc ms := by
    subst hA
    obtain ⟨e1, e2⟩ := hsame
    rw [State.setFrames_setFrames] at e1
    have h2 : (T.setVm s.vm).sameButNew ({ U with vm := s.vm } : State) [] (0 + 1) (0 + 6) := ⟨e1, e2⟩
    have h3 := X.same.trans h2
    rw [List.append_nil] at h3
    exact h3.mono hc hs
  refine ⟨U, ?_, .threw T.heap.size, hrun, hend, Or.inr ⟨T.heap.size, rfl, cls, ce, locs, hx U hWs.alike f1 (fun q hq => f2 q hq (fun z hz => nomatch hz)), hce, hO.vm, hcl, hWs, hall, hf⟩⟩
  refine st1 _ ?_
  show Steps p.tables e below (T1.setTop { method := m, pc := pc + 3, locals := ls, stack := .ref T.heap.size :: rest, locked := none }) _
  jvm_step X₁.here [X₁.here.top, hexec, d3', Value.category]
  exact hsteps
/-- 'throw new E("text")': new; dup; ldc; invokespecial; athrow -/
theorem vx_throwS {cc : ByteArray} {pc : Nat} (hexec : p.tables.exec = Jvm.exec) (hb : c.code = cc) (hl : l.stackTraces = false) {own cls text : String} {names : List String} {ik is ic mc ms sa : Nat} {A : Nat → Prop}
    (hown : s.vm.findClass own = some m.cls) (hcls : Bundle.fit cls = true) (hnames : ∀ n ∈ names, Bundle.fit n = true)
    (hk : (Cond.classLink own ik cls).before args s = true) (hini : (Cond.initialized cls).before args s = true) (hstr : vk_R own is text sa s) (hat : ∀ w ∈ vx_atS own ic cls names, w.before args s = true)
    (hgood : ∀ w ∈ Cond.classLink own ik cls :: Cond.initialized cls :: vx_atS own ic cls names, vx_ot w = true)
    (hU : vx_Zq Bundle.tN "UNASSIGNED_STACK" Bundle.steD A s s.heap) (hN : vx_Zq Bundle.tN "SUPPRESSED_SENTINEL" Bundle.listD A s s.heap) (hS : va_S A s.heap H locs) (hsize : ls.size = c.maxLocals)
    (d0 : decode cc pc = .ok (.new ik, 3)) (d3 : decode cc (pc + 3) = .ok (.dup, 1)) (d4 : decode cc (pc + 4) = .ok (.ldc is, 2)) (d6 : decode cc (pc + 6) = .ok (.invokespecial ic, 3)) (d9 : decode cc (pc + 9) = .ok (.athrow, 1))
    (hout : ∀ x ∈ c.exceptionTable.toList, covers x (pc + 9) = false)
    (hRframes : names.length + 3 < R.frames) (hRlocals : (rest.map fun v => v.category).sum + (13 * (names.length + 1) + 43) ≤ R.locals) (hRcells : cells + 1 ≤ R.cells) (hRslots : slots + 6 ≤ R.slots) (hlocks : meth.locks = false)
    (hx : ∀ t : State, s.vm.Alike t.vm → H.size ≤ t.heap.size → (∀ q : Nat, q < H.size → t.heap[q]? = H[q]?) → XC cls s t)
    (hf : ∀ z ∈ locs, free z.base) (hc : cells + 1 ≤ mc) (hs : slots + 6 ≤ ms) :
    W p l e R s m args below meth c H locs cells slots (vx_MQ below Qc XC args s mc ms free) (F0 m pc ls rest) := by
  intro T hT X
  have htr : e.platform.stackTraces = false := (show e.platform.stackTraces = l.stackTraces by rw [X.admits.platform]).trans hl
  have Y := vx_rebase X (R' := { frames := R.frames, locals := R.locals, cells := 1, slots := 6 }) (Nat.le_refl _) (Nat.le_refl _) hRcells hRslots
  obtain ⟨s', hA⟩ : ∃ z, z = (T.setVm s.vm).setFrames (.invoking m args :: below) := ⟨_, rfl⟩
  rw [← hA] at Y
  have hvm : s'.vm = s.vm := by rw [hA]; rfl
  have hhp : s'.heap = H := by rw [hA]; exact hT
  have hW0 : s.WarmedH s'.vm := by rw [hvm]; exact State.WarmedH.refl s
  have hat' : ∀ w ∈ vx_atS own ic cls names, w.before args s' = true := fun w hw => vx_ot_at hW0 hvm.symm (hgood w (List.mem_cons_of_mem _ (List.mem_cons_of_mem _ hw))) (hat w hw)
  have hk' : (Cond.classLink own ik cls).before args s' = true := vx_ot_at hW0 hvm.symm (hgood _ List.mem_cons_self) hk
  have hini' : (Cond.initialized cls).before args s' = true := vx_ot_at hW0 hvm.symm (hgood _ (List.mem_cons_of_mem _ List.mem_cons_self)) hini
  have hU' : vx_Zq Bundle.tN "UNASSIGNED_STACK" Bundle.steD A s' s'.heap := by rw [hhp]; exact vx_Zq.moved hW0.alike (hU.kept hS.2.1)
  have hN' : vx_Zq Bundle.tN "SUPPRESSED_SENTINEL" Bundle.listD A s' s'.heap := by rw [hhp]; exact vx_Zq.moved hW0.alike (hN.kept hS.2.1)
  have h : ∀ w ∈ Bundle.ownAtoms own ic cls names, w.before args s' = true := vx_own hat' (vx_isRefq hU'.1) (vx_isRefq hN'.1) hU'.2.word hN'.2.word
  have hown' : s'.vm.findClass own = some m.cls := by rw [hvm]; exact hown
  have hins : (Cond.instantiable cls 6).before args s' = true := h _ (by simp [Bundle.ownAtoms])
  obtain ⟨vm₁, cX, kX, hfX, hkX, -, -, X₁, st1⟩ := Y.newCold hexec (own := own) (C := cls) (index := ik) (n := 6) hown' hk' hins hini'
    (g := F0 m pc ls rest) rfl (by rw [hb]; exact d0) (Nat.le_refl _) (Nat.le_refl _)
  generalize hT1 : (T.setVm vm₁).pushCell { cls := cX, slots := kX.instanceTypes.map defaultValue, vm := .none } = T1 at X₁ st1
  have hcat : (Value.ref T.heap.size).category = 1 := rfl
  have hcellA : T1.heap[T.heap.size]? = some (freshCell cX kX) := by rw [← hT1]; exact State.heap_pushCell_size _ _
  have d3' : decode c.code (pc + 3) = .ok (.dup, 1) := by rw [hb]; exact d3
  have d4' : decode c.code (pc + 4) = .ok (.ldc is, 2) := by rw [hb]; exact d4
  have hstr' : vk_R own is text sa s' := vk_R.warm hW0 hstr
  obtain ⟨U, hsteps, hrun, hend, hW, hsame, ce, hce, hO⟩ := X₁.ctorThrowS hexec htr (own := own) (cls := cls) (names := names) (ic := ic) hown' hcls hnames h (fun x hx => nomatch hx) hfX hkX hcellA (by rw [hhp, hT]; exact Nat.le_refl _) (msg := .ref sa) rfl
    (g := { method := m, pc := pc + 6, locals := ls, stack := .ref sa :: .ref T.heap.size :: .ref T.heap.size :: rest, locked := none }) rfl hsize rfl rfl (rest := rest) rfl
    (by rw [hb]; exact d6) (by rw [hb]; exact d9) hout hRframes (by simp only [List.map_cons, List.sum_cons, hcat]; omega) hlocks
  obtain ⟨f1, f2⟩ := vx_frame hsame
  rw [hhp] at f1 f2
  have hWs : s.WarmedH U.vm := State.WarmedH.trans hW0 hW
  have hcl : s.vm.findClass cls = some ce.cls := by
    have h9 := hO.cls
    rw [hvm] at h9
    exact h9
  have hall : s.sameButNew ({ U with vm := s.vm } : State) locs mc ms := by
    subst hA
    obtain ⟨e1, e2⟩ := hsame
    rw [State.setFrames_setFrames] at e1
    have h2 : (T.setVm s.vm).sameButNew ({ U with vm := s.vm } : State) [] (0 + 1) (0 + 6) := ⟨e1, e2⟩
    have h3 := X.same.trans h2
    rw [List.append_nil] at h3
    exact h3.mono hc hs
  refine ⟨U, ?_, .threw T.heap.size, hrun, hend, Or.inr ⟨T.heap.size, rfl, cls, ce, locs, hx U hWs.alike f1 (fun q hq => f2 q hq (fun z hz => nomatch hz)), hce, hO.vm, hcl, hWs, hall, hf⟩⟩
  refine st1 _ ?_
  show Steps p.tables e below (T1.setTop { method := m, pc := pc + 3, locals := ls, stack := .ref T.heap.size :: rest, locked := none }) _
  jvm_step X₁.here [X₁.here.top, hexec, d3', Value.category]
  exact X₁.ldcString hexec (own := own) (text := text) (index := is) (a := sa) hown' hstr'.1 hstr'.2
    (g := { method := m, pc := pc + 4, locals := ls, stack := .ref T.heap.size :: .ref T.heap.size :: rest, locked := none }) rfl d4' _ hsteps
/-- 'throw new E("text")', the text by a wide index -/
theorem vx_throwSW {cc : ByteArray} {pc : Nat} (hexec : p.tables.exec = Jvm.exec) (hb : c.code = cc) (hl : l.stackTraces = false) {own cls text : String} {names : List String} {ik is ic mc ms sa : Nat} {A : Nat → Prop}
    (hown : s.vm.findClass own = some m.cls) (hcls : Bundle.fit cls = true) (hnames : ∀ n ∈ names, Bundle.fit n = true)
    (hk : (Cond.classLink own ik cls).before args s = true) (hini : (Cond.initialized cls).before args s = true) (hstr : vk_R own is text sa s) (hat : ∀ w ∈ vx_atS own ic cls names, w.before args s = true)
    (hgood : ∀ w ∈ Cond.classLink own ik cls :: Cond.initialized cls :: vx_atS own ic cls names, vx_ot w = true)
    (hU : vx_Zq Bundle.tN "UNASSIGNED_STACK" Bundle.steD A s s.heap) (hN : vx_Zq Bundle.tN "SUPPRESSED_SENTINEL" Bundle.listD A s s.heap) (hS : va_S A s.heap H locs) (hsize : ls.size = c.maxLocals)
    (d0 : decode cc pc = .ok (.new ik, 3)) (d3 : decode cc (pc + 3) = .ok (.dup, 1)) (d4 : decode cc (pc + 4) = .ok (.ldc_w is, 3)) (d7 : decode cc (pc + 7) = .ok (.invokespecial ic, 3)) (d10 : decode cc (pc + 10) = .ok (.athrow, 1))
    (hout : ∀ x ∈ c.exceptionTable.toList, covers x (pc + 10) = false)
    (hRframes : names.length + 3 < R.frames) (hRlocals : (rest.map fun v => v.category).sum + (13 * (names.length + 1) + 43) ≤ R.locals) (hRcells : cells + 1 ≤ R.cells) (hRslots : slots + 6 ≤ R.slots) (hlocks : meth.locks = false)
    (hx : ∀ t : State, s.vm.Alike t.vm → H.size ≤ t.heap.size → (∀ q : Nat, q < H.size → t.heap[q]? = H[q]?) → XC cls s t)
    (hf : ∀ z ∈ locs, free z.base) (hc : cells + 1 ≤ mc) (hs : slots + 6 ≤ ms) :
    W p l e R s m args below meth c H locs cells slots (vx_MQ below Qc XC args s mc ms free) (F0 m pc ls rest) := by
  intro T hT X
  have htr : e.platform.stackTraces = false := (show e.platform.stackTraces = l.stackTraces by rw [X.admits.platform]).trans hl
  have Y := vx_rebase X (R' := { frames := R.frames, locals := R.locals, cells := 1, slots := 6 }) (Nat.le_refl _) (Nat.le_refl _) hRcells hRslots
  obtain ⟨s', hA⟩ : ∃ z, z = (T.setVm s.vm).setFrames (.invoking m args :: below) := ⟨_, rfl⟩
  rw [← hA] at Y
  have hvm : s'.vm = s.vm := by rw [hA]; rfl
  have hhp : s'.heap = H := by rw [hA]; exact hT
  have hW0 : s.WarmedH s'.vm := by rw [hvm]; exact State.WarmedH.refl s
  have hat' : ∀ w ∈ vx_atS own ic cls names, w.before args s' = true := fun w hw => vx_ot_at hW0 hvm.symm (hgood w (List.mem_cons_of_mem _ (List.mem_cons_of_mem _ hw))) (hat w hw)
  have hk' : (Cond.classLink own ik cls).before args s' = true := vx_ot_at hW0 hvm.symm (hgood _ List.mem_cons_self) hk
  have hini' : (Cond.initialized cls).before args s' = true := vx_ot_at hW0 hvm.symm (hgood _ (List.mem_cons_of_mem _ List.mem_cons_self)) hini
  have hU' : vx_Zq Bundle.tN "UNASSIGNED_STACK" Bundle.steD A s' s'.heap := by rw [hhp]; exact vx_Zq.moved hW0.alike (hU.kept hS.2.1)
  have hN' : vx_Zq Bundle.tN "SUPPRESSED_SENTINEL" Bundle.listD A s' s'.heap := by rw [hhp]; exact vx_Zq.moved hW0.alike (hN.kept hS.2.1)
  have h : ∀ w ∈ Bundle.ownAtoms own ic cls names, w.before args s' = true := vx_own hat' (vx_isRefq hU'.1) (vx_isRefq hN'.1) hU'.2.word hN'.2.word
  have hown' : s'.vm.findClass own = some m.cls := by rw [hvm]; exact hown
  have hins : (Cond.instantiable cls 6).before args s' = true := h _ (by simp [Bundle.ownAtoms])
  obtain ⟨vm₁, cX, kX, hfX, hkX, -, -, X₁, st1⟩ := Y.newCold hexec (own := own) (C := cls) (index := ik) (n := 6) hown' hk' hins hini'
    (g := F0 m pc ls rest) rfl (by rw [hb]; exact d0) (Nat.le_refl _) (Nat.le_refl _)
  generalize hT1 : (T.setVm vm₁).pushCell { cls := cX, slots := kX.instanceTypes.map defaultValue, vm := .none } = T1 at X₁ st1
  have hcat : (Value.ref T.heap.size).category = 1 := rfl
  have hcellA : T1.heap[T.heap.size]? = some (freshCell cX kX) := by rw [← hT1]; exact State.heap_pushCell_size _ _
  have d3' : decode c.code (pc + 3) = .ok (.dup, 1) := by rw [hb]; exact d3
  have d4' : decode c.code (pc + 4) = .ok (.ldc_w is, 3) := by rw [hb]; exact d4
  have hstr' : vk_R own is text sa s' := vk_R.warm hW0 hstr
  obtain ⟨U, hsteps, hrun, hend, hW, hsame, ce, hce, hO⟩ := X₁.ctorThrowS hexec htr (own := own) (cls := cls) (names := names) (ic := ic) hown' hcls hnames h (fun x hx => nomatch hx) hfX hkX hcellA (by rw [hhp, hT]; exact Nat.le_refl _) (msg := .ref sa) rfl
    (g := { method := m, pc := pc + 7, locals := ls, stack := .ref sa :: .ref T.heap.size :: .ref T.heap.size :: rest, locked := none }) rfl hsize rfl rfl (rest := rest) rfl
    (by rw [hb]; exact d7) (by rw [hb]; exact d10) hout hRframes (by simp only [List.map_cons, List.sum_cons, hcat]; omega) hlocks
  obtain ⟨f1, f2⟩ := vx_frame hsame
  rw [hhp] at f1 f2
  have hWs : s.WarmedH U.vm := State.WarmedH.trans hW0 hW
  have hcl : s.vm.findClass cls = some ce.cls := by
    have h9 := hO.cls
    rw [hvm] at h9
    exact h9
  have hall : s.sameButNew ({ U with vm := s.vm } : State) locs mc ms := by
    subst hA
    obtain ⟨e1, e2⟩ := hsame
    rw [State.setFrames_setFrames] at e1
    have h2 : (T.setVm s.vm).sameButNew ({ U with vm := s.vm } : State) [] (0 + 1) (0 + 6) := ⟨e1, e2⟩
    have h3 := X.same.trans h2
    rw [List.append_nil] at h3
    exact h3.mono hc hs
  refine ⟨U, ?_, .threw T.heap.size, hrun, hend, Or.inr ⟨T.heap.size, rfl, cls, ce, locs, hx U hWs.alike f1 (fun q hq => f2 q hq (fun z hz => nomatch hz)), hce, hO.vm, hcl, hWs, hall, hf⟩⟩
  refine st1 _ ?_
  show Steps p.tables e below (T1.setTop { method := m, pc := pc + 3, locals := ls, stack := .ref T.heap.size :: rest, locked := none }) _
  jvm_step X₁.here [X₁.here.top, hexec, d3', Value.category]
  exact X₁.ldcStringW hexec (own := own) (text := text) (index := is) (a := sa) hown' hstr'.1 hstr'.2
    (g := { method := m, pc := pc + 4, locals := ls, stack := .ref T.heap.size :: .ref T.heap.size :: rest, locked := none }) rfl d4' _ hsteps
end Ends
section Bodies
variable {l : Launch}
theorem vx_ofW {y : MethodName} {ws ws' : List Cond} {rm : Room} {Pc : Array Value → State → Prop} {Qc : Array Value → State → Outcome → State → Prop} {XC : String → State → State → Prop} {mc ms : Nat} {free : Addr → Prop} {cc : ByteArray} {maxL : Nat} {ret : Option FieldType}
    (hy : plainName y.cls = true) (hw : ws = Cond.code y cc maxL ret :: ws')
    (body : ∀ p e s m args below meth c s₁, BodyLoose p l y (headSpec ws rm) cc maxL ret e s m args below meth c s₁ → c.maxLocals = maxL → (∀ x ∈ c.exceptionTable.toList, False) → Pc args s →
      W p l e (headSpec ws rm).room s m args below meth c s.heap [] 0 0 (vx_MQ below Qc XC args s mc ms free) (entryFrame m args maxL)) : vx_Met l y ws rm Pc Qc XC mc ms free := by
  refine MetFree.of_bodyS (code := cc) (maxLocals := maxL) (ret := ret) hy ?_ ?_
  · intro args s m h hn
    obtain ⟨meth, c, h1, h2, h3, h4, h5, h6, -, -⟩ := Cond.code_spec hn (atoms_spec (ws := ws) h _ (by rw [hw]; exact List.mem_cons_self))
    exact ⟨meth, c, h1, h2, h3, h4, h5, h6⟩
  · intro p e s m args below meth c s₁ B hml hP _
    have hh0 : s₁.heap = s.heap := by rw [B.state]; rfl
    have ht : ∀ x ∈ c.exceptionTable.toList, False := by
      obtain ⟨meth9, c9, h1, h2, -, -, -, -, h7, -⟩ := Cond.code_spec B.named (atoms_spec (ws := ws) B.pre _ (by rw [hw]; exact List.mem_cons_self))
      cases Option.some.inj (h1.symm.trans B.method)
      cases Option.some.inj (h2.symm.trans (Stand.of_body B).code)
      intro x hx
      rw [Array.isEmpty_iff.mp h7] at hx
      cases hx
    obtain ⟨t, a1, o, b1, b2, b3⟩ := body p e s m args below meth c s₁ B hml ht hP s₁ hh0 (Stand.of_body B)
    exact ⟨t, o, a1, b1, b2, b3⟩
/-- the table of a body with handlers -/
theorem vx_table {p : Program} {x y : MethodName} {S : Spec} {cc bytes : ByteArray} {maxL maxL' : Nat} {ret ret' : Option FieldType} {e : Env} {s s₁ : State} {m : MethodId} {args : Array Value} {below : List Frame} {meth : Method} {c : Code} {hh : List (Nat × Nat × Nat × Nat)}
    (B : BodyLoose p l y S cc maxL ret e s m args below meth c s₁) (h : (Cond.codeWith y bytes maxL' ret' hh).before args s = true) : c.exceptionTable.toList = tableOf hh := by
  obtain ⟨m9, meth9, c9, hn9, h1, h2, -, -, h6, -⟩ := Cond.codeWith_spec h
  cases Option.some.inj (hn9.symm.trans B.named)
  cases Option.some.inj (h1.symm.trans B.method)
  cases Option.some.inj (h2.symm.trans (Stand.of_body B).code)
  rw [← h6, table_eq]
end Bodies
end VXA
/-! ===== END ===== -/
/-! ===== BEGIN a static call of a method with an exception table ===== -/
section VXS
variable {p : Program} {l : Launch} {e : Env} {R : Room} {s : State} {m : MethodId} {args : Array Value} {below : List Frame} {meth : Method} {c : Code} {T : State} {H : Heap} {locs : List Loc} {cells slots : Nat}
abbrev vx_CSW (R : Room) (s : State) (args : Array Value) (own : String) (index : Nat) (y : MethodName) (bytes : ByteArray) (maxL : Nat) (ret : Option FieldType) (hh : List (Nat × Nat × Nat × Nat)) (ws : List Cond) (rm : Room) (mc ms n : Nat) : Prop :=
  (rm.cells = mc ∧ rm.slots = ms ∧ rm.frames + 1 ≤ R.frames ∧ 8 + (maxL + 11) + rm.locals ≤ R.locals ∧ (∀ w ∈ ws, ∀ (a' : Array Value) (U : State), s.WarmedH U.vm → w.before a' U = true) ∧ Cond.codeWith y bytes maxL ret hh ∈ ws) ∧
  (Cond.codeWith y bytes maxL ret hh).before args s = true ∧ (Cond.initialized y.cls).before args s = true ∧ (y.cls ≠ "java/lang/invoke/MethodHandle" ∧ y.cls ≠ "java/lang/invoke/VarHandle") ∧
  (∀ sig, parseMethodDescriptor y.desc = some sig → n = sig.parameters.length) ∧ (Cond.methodLink own index y).before args s = true ∧ (Cond.static y).before args s = true
theorem vx_cwSW {own : String} {index maxL mc ms : Nat} {y : MethodName} {bytes : ByteArray} {ret : Option FieldType} {hh : List (Nat × Nat × Nat × Nat)} {Ts ws ws' : List Cond} {rm : Room} (n : Nat) (ht : ∀ w ∈ Ts, w.before args s = true) (hT : GoodIn Ts (va_wsS own index y ws)) (hw : ws = Cond.codeWith y bytes maxL ret hh :: ws') (hrc : rm.cells = mc) (hrs : rm.slots = ms)
    (hd : y.cls ≠ "java/lang/invoke/MethodHandle" ∧ y.cls ≠ "java/lang/invoke/VarHandle" ∧ (parseMethodDescriptor y.desc).map (fun d => d.parameters.length) = some n) (hR : rm.frames + 1 ≤ R.frames ∧ 8 + (maxL + 11) + rm.locals ≤ R.locals) :
    vx_CSW R s args own index y bytes maxL ret hh ws rm mc ms n := by
  have ok : ∀ w ∈ va_wsS own index y ws, w.before args s = true := fun w h => ht w (hT w h).1
  have hG : GoodIn Ts ws := fun w h => hT w (by unfold va_wsS; exact List.mem_append_right _ h)
  have hc : Cond.codeWith y bytes maxL ret hh ∈ ws := by rw [hw]; exact List.mem_cons_self
  refine ⟨⟨hrc, hrs, hR.1, hR.2, pay_in ht hG, hc⟩, ht _ (hG _ hc).1, ok _ (by simp [va_wsS]), ⟨hd.1, hd.2.1⟩, fun sig h => ?_, ok _ (by simp [va_wsS]), ok _ (by simp [va_wsS])⟩
  have h2 := hd.2.2
  rw [h] at h2
  exact (Option.some.inj h2).symm
theorem vx_callSW (X : Stand p l e R s m args below meth c T locs cells slots) (hexec : p.tables.exec = Jvm.exec) {own : String} {index : Nat} {y : MethodName} {bytes : ByteArray} {maxL : Nat} {ret : Option FieldType} {hh : List (Nat × Nat × Nat × Nat)}
    (hown : s.vm.findClass own = some m.cls) (hlink : (Cond.methodLink own index y).before args s = true) (hstat : (Cond.static y).before args s = true) (hinit : (Cond.initialized y.cls).before args s = true)
    (hcode : (Cond.codeWith y bytes maxL ret hh).before args s = true) (hy : y.cls ≠ "java/lang/invoke/MethodHandle" ∧ y.cls ≠ "java/lang/invoke/VarHandle")
    {W9 : Nat} {Pre : Pt → Array Value → Prop} {Post : Pt → Array Value → Option Value → Pt → Prop} (hK : Back l R p e below s args y 3 W9 Pre Post)
    {g : JFrame} (hg : g.method = m) (hsize : g.locals.size = c.maxLocals) {argsL rest : List Value} (hlen : ∀ sig, parseMethodDescriptor y.desc = some sig → argsL.length = sig.parameters.length)
    (hstack : g.stack = argsL.reverse ++ rest) (hW : 2 * g.monitorRoom + (rest.map fun v => v.category).sum ≤ W9) (hdg : decode c.code g.pc = .ok (.invokestatic index, 3))
    (hpre : ∀ vm₁, s.WarmedH vm₁ → Pre ⟨T.setVm vm₁, locs, cells, slots⟩ argsL.toArray) :
    ∃ (v : Option Value) (vm₁ : Vm) (B : Pt), s.WarmedH vm₁ ∧ Stand p l e R s m args below meth c B.U B.locs B.cells B.slots ∧ Post ⟨T.setVm vm₁, locs, cells, slots⟩ argsL.toArray v B ∧
      ∀ target, Steps p.tables e below (B.U.setTop { g with pc := g.pc + 3, stack := v.toList ++ rest }) target → Steps p.tables e below (T.setTop g) target := by
  obtain ⟨mk, methM, cM, hnamed, hmethM, -, -, -, -, -, -, hsigM⟩ := Cond.codeWith_spec hcode
  have hstatic : methM.isStatic = true := Cond.static_spec hnamed hmethM hstat
  obtain ⟨kP, hkP, -⟩ := className_of_methodNamed hnamed
  have hinitP : kP.init = .initialized := Cond.initialized_spec (findClass_of_methodNamed hnamed) hkP hinit
  obtain ⟨vm₁, X₁, hstep₁⟩ := X.invokestatic hexec hown hlink hnamed hmethM hstatic hkP hinitP hy (g := g) hg (argsL := argsL) (rest := rest) (hlen _ hsigM) hstack hdg
  obtain ⟨v, B, X', hpost, hsteps⟩ := hK m meth c ⟨T.setVm vm₁, locs, cells, slots⟩ { g with stack := rest } (.invokestatic index) mk argsL.toArray X₁ hg hsize hdg hW (X₁.named hnamed) (hpre vm₁ X₁.warmed)
  exact ⟨v, vm₁, B, X₁.warmed, X', hpost, fun target h => hstep₁ _ fun acts => by rw [doInvoke_state]; exact hsteps.trans h⟩
theorem vx_runSW {y : MethodName} {bytes cc : ByteArray} {maxL nL mc ms n index : Nat} {ret : Option FieldType} {hh : List (Nat × Nat × Nat × Nat)} {ws : List Cond} {rm : Room} {Pc : Array Value → State → Prop} {Qc : Array Value → State → Outcome → State → Prop} {free : Addr → Prop} {Ts : List Cond} {own : String} {As rest : List Value} {g : JFrame}
    (S : CallFix p m c cc nL s args Ts own) (hM : Met l y ws rm Pc Qc mc ms free) (cw : vx_CSW R s args own index y bytes maxL ret hh ws rm mc ms n) (hp : PreS s H Pc As)
    (hg : g.method = m) (hn : As.length = n) (hsize : g.locals.size = nL) (hstack : g.stack = As.reverse ++ rest) (hW : 2 * g.monitorRoom + (rest.map fun v => v.category).sum ≤ 8) (hdg : decode cc g.pc = .ok (.invokestatic index, 3)) (hf : cells + mc ≤ R.cells ∧ slots + ms ≤ R.slots) :
    va_Run p l e R s m args below meth c H locs cells slots mc ms g rest (Qc As.toArray) (free) := by
  obtain ⟨⟨hrc, hrs, hfr, hlo, hws, hcw⟩, hcode, hini, hy, hlen, hl, hstt⟩ := cw
  have hK : Back l R p e below s args y 3 8 (PreOf R mc ms Pc) (PostOf Qc mc ms free) := va_backW (hh := hh) (bytes := bytes) (maxL := maxL) (ret := ret) hM hp.1 hrc hrs hfr hlo hws hcw (fun a' U hW => word_at hW (Or.inl (by first | rfl | simp [Cond.onTables, Cond.keeps, Cond.steady])) hini)
  obtain ⟨hx, hb, hml, ho, -⟩ := S
  intro T hT X
  obtain ⟨v, vm₁, ⟨U', l2, c2, s2⟩, hW₁, X', ⟨g', mk, t, L, e1, e2, hq, h1, hL, h2, h3⟩, st⟩ := vx_callSW X hx (hh := hh) (bytes := bytes) (maxL := maxL) (ret := ret) ho hl hstt hini hcode hy hK hg (hsize.trans hml.symm) (argsL := As) (rest := rest) (fun sig h => hn.trans (hlen sig h)) hstack hW (by rw [hb]; exact hdg)
    (fun vm₁ hW₁ => ⟨hf.1, hf.2, hp.2 (T.setVm vm₁) hT hW₁⟩)
  dsimp only [Pt.U, Pt.locs, Pt.cells, Pt.slots] at X' e1 e2 h1 h2 h3 st
  subst h1; subst h2; subst h3
  exact ⟨v, (T.setVm vm₁).calling g' mk As.toArray, t, U', L, hT, X', hL, e1, e2, hq, st⟩
/-- not caught here, past rows that name other classes: it goes on to the caller -/
theorem vx_outP {p : Program} {l : Launch} {e : Env} {R : Room} {s : State} {m : MethodId} {args : Array Value} {below : List Frame} {meth : Method} {c : Code} {H : Heap} {locs : List Loc} {cells slots : Nat} {free : Addr → Prop} {ls : Array Slot} {rest : List Value} {Qc : Array Value → State → Outcome → State → Prop} {XC : String → State → State → Prop}
    {pc : Nat} {own E : String} {ce : Cell} {q : Addr} {mc ms : Nat} (hown : s.vm.findClass own = some m.cls) (hlocks : meth.locks = false)
    (hpass : ∀ z ∈ c.exceptionTable.toList, covers z pc = false ∨ (z.catchType ≠ 0 ∧ ∃ nm : String, (Cond.classLink own z.catchType nm).before args s = true ∧ va_Nc E nm s)) (hcell : H[q]? = some ce) (hv : ce.vm = .none) (hcl : s.vm.findClass E = some ce.cls)
    (hx : ∀ t : State, t.heap = H → s.vm.Alike t.vm → XC E s t) (hf : ∀ z ∈ locs, free z.base) (hc : cells ≤ mc) (hs : slots ≤ ms) :
    vx_W p l e R s m args below meth c H locs cells slots (vx_MQ below Qc XC args s mc ms free) (F0 m pc ls rest) q := by
  intro T hT X
  have hpl : e.platform.magicAccessors = ({} : Platform).magicAccessors := by rw [X.admits.platform]
  obtain ⟨vm', hW', X', st⟩ := X.outThrough hlocks q (g := F0 m pc ls rest) rfl rfl rfl (cell := ce) (by rw [hT]; exact hcell) (by rw [hv]; rfl)
    (by obtain ⟨k9, h9, -⟩ := Vm.findClass_spec hcl; exact ⟨k9, h9⟩) (fun z hz => by
      rcases hpass z hz with h | ⟨hz0, nm, hl1, hn1⟩
      · exact Or.inl h
      · obtain ⟨c6, hc6, hcl6⟩ := Cond.classLink_spec hown hl1 e.platform hpl
        obtain ⟨a8, b8, h1, h2, h3⟩ := hn1
        cases Option.some.inj (h1.symm.trans hcl)
        cases Option.some.inj (h2.symm.trans hc6)
        exact Or.inr ⟨hz0, _, hcl6, h3⟩)
  obtain ⟨g₀, hfr⟩ := X'.frames_eq
  have hcell9 : ((T.setVm vm').setFrames (.throwing q :: below)).heap[q]? = some ce := by
    show T.heap[q]? = some ce
    rw [hT]; exact hcell
  have hend : Ended ((T.setVm vm').setFrames (.throwing q :: below)) below (.threw q) := State.frames_setFrames _ (State.cur_lt_of_frames hfr)
  refine ⟨(T.setVm vm').setFrames (.throwing q :: below), ?_, .threw q, X'.here.running, hend, Or.inr ⟨q, rfl, E, ce, locs, hx _ hT (X'.ends _).1.alike, hcell9, hv, hcl, (X'.ends _).1, (X'.ends _).2.mono hc hs, hf⟩⟩
  rw [X.pushThrowing_eq]
  exact st
/-- a thing of a world lies in the heap -/
theorem vx_lt {D : va_G} {cl : List vw_C} {ws : va_W} {H1 : Heap} (h : va_P D cl ws H1) {k : Nat} {q : Nat × va_E} (hk : ws[k]? = some q) : q.1 < H1.size := (h k q hk).lt
end VXS
/-! ===== END ===== -/
/-! ===== BEGIN methods with a table of their own: called by a name, returning or throwing ===== -/
section VXH
/-! vx_backW, vx_callVX, vx_callSX, vx_callVW, vx_runVW, vx_runVX, vx_runSX, vx_ofWH follow the same proofs as their sisters above (Free/Laws.lean, Shelf42/LK1.lean); vx_outP calls Shelf42/NT130.lean (outThrough). -/
section
variable {l : Launch} {R : Room} {p : Program} {e : Env} {below : List Frame} {s : State} {sargs : Array Value} {y : MethodName} {len W9 : Nat}
theorem vx_backW {ws : List Cond} {rm : Room} {Pc : Array Value → State → Prop} {Qc : Array Value → State → Outcome → State → Prop} {XC : String → State → State → Prop} {mc ms : Nat} {free : Addr → Prop} {bytes : ByteArray} {maxL : Nat} {ret : Option FieldType} {hh : List (Nat × Nat × Nat × Nat)}
    (hM : vx_Met l y ws rm Pc Qc XC mc ms free) (hblind : FrameBlind Pc) (hrc : rm.cells = mc) (hrs : rm.slots = ms)
    (hframes : rm.frames + 1 ≤ R.frames) (hlocals : W9 + (maxL + 11) + rm.locals ≤ R.locals)
    (hws : ∀ w ∈ ws, ∀ a' U, s.WarmedH U.vm → w.before a' U = true) (hcode : Cond.codeWith y bytes maxL ret hh ∈ ws) (hinit : ∀ a' U, s.WarmedH U.vm → (Cond.initialized y.cls).before a' U = true) :
    vx_Back l R p e below s sargs y len W9 (PreOf R mc ms Pc) (PostOf Qc mc ms free) (vx_Post XC mc ms free) := by
  intro m meth c A g ig mk a X hg hsize hdg hW hn hp
  have h1 : (headSpec ws rm).pre.before a A.U = true := atoms_intro fun w hw => hws w hw _ _ X.warmed
  have h2 : (Cond.codeWith y bytes maxL ret hh).before a A.U = true := hws _ hcode _ _ X.warmed
  have h3 : (Cond.initialized y.cls).before a A.U = true := hinit _ _ X.warmed
  have h4 : A.cells + (headSpec ws rm).room.cells ≤ R.cells := by rw [show (headSpec ws rm).room.cells = mc from hrc]; exact hp.1
  have h5 : A.slots + (headSpec ws rm).room.slots ≤ R.slots := by rw [show (headSpec ws rm).room.slots = ms from hrs]; exact hp.2.1
  have hPc : Pc a (A.U.calling g mk a) := hblind _ _ _ _ hp.2.2
  obtain ⟨U, Ls, c0, s0⟩ := A
  dsimp only [Pt.U, Pt.locs, Pt.cells, Pt.slots] at h1 h2 h3 h4 h5 X hn hPc ⊢
  obtain ⟨m9, methY, cY, hn9, hmY, hcY, -, hlY, -⟩ := Cond.codeWith_spec h2
  cases Option.some.inj (hn9.symm.trans hn)
  obtain ⟨kY, hkY, -⟩ := className_of_methodNamed hn
  have hinitY : kY.init = .initialized := Cond.initialized_spec (findClass_of_methodNamed hn) hkY h3
  have h : At U g.method c below := by rw [hg]; exact X.here
  have hlocals9 : W9 + (maxL + 11) + (headSpec ws rm).room.locals ≤ R.locals := hlocals
  have happ : (headSpec ws rm).appliesLoose y e.platform (U.calling g mk a) = true :=
    Spec.appliesLoose_calling (g := g) h hdg hn hkY hinitY
      (X.room_calling (g := g) (R' := (headSpec ws rm).room) hsize hmY hcY hframes (by rw [hlY]; omega) h4 h5) h1
  obtain ⟨mid, hmid⟩ := h.above
  have hfr : (U.setTop g).frames = (.java g :: mid) ++ below := by rw [State.frames_setTop' g h.top, hmid]; rfl
  obtain ⟨o, s₂, hsteps, -, hend, hq⟩ := Steps.callFree hM p X.admits X.cas X.clock (acts := []) hfr happ hPc trivial
  have hq' : vx_Q Qc XC mc ms free a (U.calling g mk a) o s₂ := hq
  rw [State.frames_setTop' g h.top] at hend
  obtain ⟨g₀, hg0⟩ := Option.isSome_iff_exists.mp h.top
  obtain ⟨r, hr⟩ := State.topJava?_eq_some.mp hg0
  have hr' : (({ U with heap := s₂.heap, slotsUsed := s₂.slotsUsed } : State).setVm s₂.vm).frames = .java g₀ :: r := hr
  rcases hq' with ⟨hqc, L, hfe, hL⟩ | ⟨q, rfl, E, ce, L, hx, hce, hcv, hcl, hW₂, hsm, hL⟩
  · obtain ⟨⟨v, rfl⟩, hW₂, e2, q2, q3, q4, q5, q6⟩ := id hfe
    have e3 : s₂ = ({ (U.calling g mk a).setFrames s₂.frames with heap := s₂.heap, slotsUsed := s₂.slotsUsed } : State).setVm s₂.vm := by
      have : s₂ = ({ s₂ with vm := (U.calling g mk a).vm } : State).setVm s₂.vm := rfl
      rw [e2] at this
      exact this
    obtain ⟨c₂, i₂, len₂, hc₂, hd₂, hf₂⟩ := hend
    have hW' : U.WarmedH s₂.vm := hW₂
    have hcc : c₂ = c := by
      have h1 : s₂.code? g.method = U.code? g.method := by
        rw [State.code?_eq, State.code?_eq, hW'.alike.method?]
      exact Option.some.inj (hc₂.symm.trans (h1.trans h.code))
    subst hcc
    have hlen : len₂ = len := by rw [hdg] at hd₂; cases hd₂; rfl
    subst hlen
    have hs₂ : s₂ = (({ U with heap := s₂.heap, slotsUsed := s₂.slotsUsed } : State).setVm s₂.vm).setTop { g with pc := g.pc + len₂, stack := v.toList ++ g.stack } := by
      refine e3.trans ?_
      rw [hf₂, State.calling_eq h.top, State.setFrames_setFrames, State.setTop_of_frames _ hr', hr]
      rfl
    have hsame : U.sameButNew ({ U with heap := s₂.heap, slotsUsed := s₂.slotsUsed } : State) L mc ms := by
      refine ⟨?_, q2, q3, q4, q5, q6⟩
      obtain ⟨t, ht, -⟩ := State.frames_cons hr
      show ({ U with heap := s₂.heap, slotsUsed := s₂.slotsUsed } : State) = { U.setFrames U.frames with heap := s₂.heap, slotsUsed := s₂.slotsUsed }
      rw [State.setFrames_self ht]
    subst hg
    refine Or.inl ⟨v, ⟨(({ U with heap := s₂.heap, slotsUsed := s₂.slotsUsed } : State).setVm s₂.vm), Ls ++ L, c0 + mc, s0 + ms⟩,
      ⟨X.admits, X.cas, X.clock, X.frames, X.room, X.hears, X.method, X.code, (X.here.setHeapUsed s₂.heap s₂.slotsUsed).setVm hW'.alike, X.tail, State.WarmedH.trans X.warmed hW', X.limits, X.bytes, X.same.trans (hsame.setVm s.vm)⟩,
      ⟨g, mk, s₂, L, rfl, rfl, hqc, rfl, hL, rfl, rfl⟩, ?_⟩
    show Steps p.tables e below _ ((({ U with heap := s₂.heap, slotsUsed := s₂.slotsUsed } : State).setVm s₂.vm).setTop { g with pc := g.pc + len₂, stack := v.toList ++ g.stack })
    rw [← hs₂]
    exact hsteps
  · obtain ⟨e2, q2, q3, q4, q5, q6⟩ := id hsm
    have e3 : s₂ = ({ (U.calling g mk a).setFrames s₂.frames with heap := s₂.heap, slotsUsed := s₂.slotsUsed } : State).setVm s₂.vm := by
      have : s₂ = ({ s₂ with vm := (U.calling g mk a).vm } : State).setVm s₂.vm := rfl
      rw [e2] at this
      exact this
    have hf₂ : s₂.frames = .throwing q :: .java g :: U.frames.tail := hend
    have hW' : U.WarmedH s₂.vm := hW₂
    have hs₂ : s₂ = ((({ U with heap := s₂.heap, slotsUsed := s₂.slotsUsed } : State).setVm s₂.vm).setTop g).pushFrame (.throwing q) := by
      refine e3.trans ?_
      rw [hf₂, State.calling_eq h.top, State.setFrames_setFrames, State.pushFrame, State.frames_setTop _ hr', State.setTop_of_frames _ hr', State.setFrames_setFrames, hr]
      rfl
    have hsame : U.sameButNew ({ U with heap := s₂.heap, slotsUsed := s₂.slotsUsed } : State) L mc ms := by
      refine ⟨?_, q2, q3, q4, q5, q6⟩
      obtain ⟨t, ht, -⟩ := State.frames_cons hr
      show ({ U with heap := s₂.heap, slotsUsed := s₂.slotsUsed } : State) = { U.setFrames U.frames with heap := s₂.heap, slotsUsed := s₂.slotsUsed }
      rw [State.setFrames_self ht]
    subst hg
    refine Or.inr ⟨q, ⟨(({ U with heap := s₂.heap, slotsUsed := s₂.slotsUsed } : State).setVm s₂.vm), Ls ++ L, c0 + mc, s0 + ms⟩,
      ⟨X.admits, X.cas, X.clock, X.frames, X.room, X.hears, X.method, X.code, (X.here.setHeapUsed s₂.heap s₂.slotsUsed).setVm hW'.alike, X.tail, State.WarmedH.trans X.warmed hW', X.limits, X.bytes, X.same.trans (hsame.setVm s.vm)⟩,
      ⟨g, mk, s₂, L, E, ce, rfl, rfl, hx, hce, hcv, hcl, rfl, hL, rfl, rfl⟩, ?_⟩
    show Steps p.tables e below _ (((({ U with heap := s₂.heap, slotsUsed := s₂.slotsUsed } : State).setVm s₂.vm).setTop g).pushFrame (.throwing q))
    rw [← hs₂]
    exact hsteps
end
variable {p : Program} {l : Launch} {e : Env} {R : Room} {s : State} {m : MethodId} {args : Array Value} {below : List Frame} {meth : Method} {c : Code} {T : State} {H : Heap} {locs : List Loc} {cells slots : Nat}
theorem vx_callVX (X : Stand p l e R s m args below meth c T locs cells slots) (hexec : p.tables.exec = Jvm.exec) {own C : String} {index : Nat} {y : MethodName} {bytes : ByteArray} {maxL : Nat} {ret : Option FieldType} {hh : List (Nat × Nat × Nat × Nat)}
    (hown : s.vm.findClass own = some m.cls) (hlink : (Cond.methodLink own index y).before args s = true) (hinst : (Cond.instanceMethod y).before args s = true) (hsel : (Cond.selects C y y).before args s = true)
    (hcode : (Cond.codeWith y bytes maxL ret hh).before args s = true) (hy : y.cls ≠ "java/lang/invoke/MethodHandle" ∧ y.cls ≠ "java/lang/invoke/VarHandle")
    {W9 : Nat} {Pre : Pt → Array Value → Prop} {Post : Pt → Array Value → Option Value → Pt → Prop} {PostX : Pt → Array Value → Addr → Pt → Prop} (hK : vx_Back l R p e below s args y 3 W9 Pre Post PostX)
    {b : Addr} {cellB : Cell} (hcell : T.heap[b]? = some cellB) (hobj : cellB.vm.isStatics = false) (hcls : s.vm.findClass C = some cellB.cls)
    {g : JFrame} (hg : g.method = m) (hsize : g.locals.size = c.maxLocals) {argsL rest : List Value} (hlen : ∀ sig, parseMethodDescriptor y.desc = some sig → argsL.length = sig.parameters.length)
    (hstack : g.stack = argsL.reverse ++ .ref b :: rest) (hW : 2 * g.monitorRoom + (rest.map fun v => v.category).sum ≤ W9) (hdg : decode c.code g.pc = .ok (.invokevirtual index, 3))
    (hpre : ∀ vm₁, s.WarmedH vm₁ → Pre ⟨T.setVm vm₁, locs, cells, slots⟩ (Value.ref b :: argsL).toArray) :
    (∃ (v : Option Value) (vm₁ : Vm) (B : Pt), s.WarmedH vm₁ ∧ Stand p l e R s m args below meth c B.U B.locs B.cells B.slots ∧ Post ⟨T.setVm vm₁, locs, cells, slots⟩ (Value.ref b :: argsL).toArray v B ∧
      ∀ target, Steps p.tables e below (B.U.setTop { g with pc := g.pc + 3, stack := v.toList ++ rest }) target → Steps p.tables e below (T.setTop g) target) ∨
    (∃ (q : Addr) (vm₁ : Vm) (B : Pt), s.WarmedH vm₁ ∧ Stand p l e R s m args below meth c B.U B.locs B.cells B.slots ∧ PostX ⟨T.setVm vm₁, locs, cells, slots⟩ (Value.ref b :: argsL).toArray q B ∧
      Steps p.tables e below (T.setTop g) ((B.U.setTop { g with stack := rest }).pushFrame (.throwing q))) := by
  obtain ⟨mk, methM, hnamed, hmethM, hstM, habM⟩ := Cond.instanceMethod_spec hinst
  obtain ⟨m8, methM', cM, hn8, hmethM', -, -, -, -, -, -, hsigM⟩ := Cond.codeWith_spec hcode
  cases Option.some.inj (hn8.symm.trans hnamed)
  cases hmethM.symm.trans hmethM'
  obtain ⟨c2, r2, m2, q1, q2, q3, q4, kP, hkP, hkPi⟩ := Cond.selects_spec hsel
  cases hcls.symm.trans q1
  cases (State.methodFound?_of_named hnamed hy).symm.trans q2
  cases hnamed.symm.trans q3
  have hselP : selectMethod e.platform s.vm cellB.cls mk = .method mk := by rw [Launch.admits_selectMethod X.admits]; exact q4
  obtain ⟨vm₁, X₁, hstep₁⟩ := X.invokevirtual hexec hown hlink hnamed hmethM hstM hkP hkPi hy (a := b) (cell := cellB) hcell
    (fun z h => by rw [h] at hobj; cases hobj) hselP hmethM habM hkP hkPi (g := g) hg (argsL := argsL) (rest := rest) (hlen _ hsigM) hstack hdg
  rcases hK m meth c ⟨T.setVm vm₁, locs, cells, slots⟩ { g with stack := rest } (.invokevirtual index) mk (Value.ref b :: argsL).toArray X₁ hg hsize hdg hW (X₁.named hnamed) (hpre vm₁ X₁.warmed) with ⟨v, B, X', hpost, hsteps⟩ | ⟨q, B, X', hpost, hsteps⟩
  · exact Or.inl ⟨v, vm₁, B, X₁.warmed, X', hpost, fun target h => hstep₁ _ fun acts => by rw [doInvoke_state]; exact hsteps.trans h⟩
  · exact Or.inr ⟨q, vm₁, B, X₁.warmed, X', hpost, hstep₁ _ fun acts => by rw [doInvoke_state]; exact hsteps⟩
theorem vx_callSX (X : Stand p l e R s m args below meth c T locs cells slots) (hexec : p.tables.exec = Jvm.exec) {own : String} {index : Nat} {y : MethodName} {bytes : ByteArray} {maxL : Nat} {ret : Option FieldType} {hh : List (Nat × Nat × Nat × Nat)}
    (hown : s.vm.findClass own = some m.cls) (hlink : (Cond.methodLink own index y).before args s = true) (hstat : (Cond.static y).before args s = true) (hinit : (Cond.initialized y.cls).before args s = true)
    (hcode : (Cond.codeWith y bytes maxL ret hh).before args s = true) (hy : y.cls ≠ "java/lang/invoke/MethodHandle" ∧ y.cls ≠ "java/lang/invoke/VarHandle")
    {W9 : Nat} {Pre : Pt → Array Value → Prop} {Post : Pt → Array Value → Option Value → Pt → Prop} {PostX : Pt → Array Value → Addr → Pt → Prop} (hK : vx_Back l R p e below s args y 3 W9 Pre Post PostX)
    {g : JFrame} (hg : g.method = m) (hsize : g.locals.size = c.maxLocals) {argsL rest : List Value} (hlen : ∀ sig, parseMethodDescriptor y.desc = some sig → argsL.length = sig.parameters.length)
    (hstack : g.stack = argsL.reverse ++ rest) (hW : 2 * g.monitorRoom + (rest.map fun v => v.category).sum ≤ W9) (hdg : decode c.code g.pc = .ok (.invokestatic index, 3))
    (hpre : ∀ vm₁, s.WarmedH vm₁ → Pre ⟨T.setVm vm₁, locs, cells, slots⟩ argsL.toArray) :
    (∃ (v : Option Value) (vm₁ : Vm) (B : Pt), s.WarmedH vm₁ ∧ Stand p l e R s m args below meth c B.U B.locs B.cells B.slots ∧ Post ⟨T.setVm vm₁, locs, cells, slots⟩ argsL.toArray v B ∧
      ∀ target, Steps p.tables e below (B.U.setTop { g with pc := g.pc + 3, stack := v.toList ++ rest }) target → Steps p.tables e below (T.setTop g) target) ∨
    (∃ (q : Addr) (vm₁ : Vm) (B : Pt), s.WarmedH vm₁ ∧ Stand p l e R s m args below meth c B.U B.locs B.cells B.slots ∧ PostX ⟨T.setVm vm₁, locs, cells, slots⟩ argsL.toArray q B ∧
      Steps p.tables e below (T.setTop g) ((B.U.setTop { g with stack := rest }).pushFrame (.throwing q))) := by
  obtain ⟨mk, methM, cM, hnamed, hmethM, -, -, -, -, -, -, hsigM⟩ := Cond.codeWith_spec hcode
  have hstatic : methM.isStatic = true := Cond.static_spec hnamed hmethM hstat
  obtain ⟨kP, hkP, -⟩ := className_of_methodNamed hnamed
  have hinitP : kP.init = .initialized := Cond.initialized_spec (findClass_of_methodNamed hnamed) hkP hinit
  obtain ⟨vm₁, X₁, hstep₁⟩ := X.invokestatic hexec hown hlink hnamed hmethM hstatic hkP hinitP hy (g := g) hg (argsL := argsL) (rest := rest) (hlen _ hsigM) hstack hdg
  rcases hK m meth c ⟨T.setVm vm₁, locs, cells, slots⟩ { g with stack := rest } (.invokestatic index) mk argsL.toArray X₁ hg hsize hdg hW (X₁.named hnamed) (hpre vm₁ X₁.warmed) with ⟨v, B, X', hpost, hsteps⟩ | ⟨q, B, X', hpost, hsteps⟩
  · exact Or.inl ⟨v, vm₁, B, X₁.warmed, X', hpost, fun target h => hstep₁ _ fun acts => by rw [doInvoke_state]; exact hsteps.trans h⟩
  · exact Or.inr ⟨q, vm₁, B, X₁.warmed, X', hpost, hstep₁ _ fun acts => by rw [doInvoke_state]; exact hsteps⟩
theorem vx_callVW (X : Stand p l e R s m args below meth c T locs cells slots) (hexec : p.tables.exec = Jvm.exec) {own C : String} {index : Nat} {y : MethodName} {bytes : ByteArray} {maxL : Nat} {ret : Option FieldType} {hh : List (Nat × Nat × Nat × Nat)}
    (hown : s.vm.findClass own = some m.cls) (hlink : (Cond.methodLink own index y).before args s = true) (hinst : (Cond.instanceMethod y).before args s = true) (hsel : (Cond.selects C y y).before args s = true)
    (hcode : (Cond.codeWith y bytes maxL ret hh).before args s = true) (hy : y.cls ≠ "java/lang/invoke/MethodHandle" ∧ y.cls ≠ "java/lang/invoke/VarHandle")
    {W9 : Nat} {Pre : Pt → Array Value → Prop} {Post : Pt → Array Value → Option Value → Pt → Prop} (hK : Back l R p e below s args y 3 W9 Pre Post)
    {b : Addr} {cellB : Cell} (hcell : T.heap[b]? = some cellB) (hobj : cellB.vm.isStatics = false) (hcls : s.vm.findClass C = some cellB.cls)
    {g : JFrame} (hg : g.method = m) (hsize : g.locals.size = c.maxLocals) {argsL rest : List Value} (hlen : ∀ sig, parseMethodDescriptor y.desc = some sig → argsL.length = sig.parameters.length)
    (hstack : g.stack = argsL.reverse ++ .ref b :: rest) (hW : 2 * g.monitorRoom + (rest.map fun v => v.category).sum ≤ W9) (hdg : decode c.code g.pc = .ok (.invokevirtual index, 3))
    (hpre : ∀ vm₁, s.WarmedH vm₁ → Pre ⟨T.setVm vm₁, locs, cells, slots⟩ (Value.ref b :: argsL).toArray) :
    ∃ (v : Option Value) (vm₁ : Vm) (B : Pt), s.WarmedH vm₁ ∧ Stand p l e R s m args below meth c B.U B.locs B.cells B.slots ∧ Post ⟨T.setVm vm₁, locs, cells, slots⟩ (Value.ref b :: argsL).toArray v B ∧
      ∀ target, Steps p.tables e below (B.U.setTop { g with pc := g.pc + 3, stack := v.toList ++ rest }) target → Steps p.tables e below (T.setTop g) target := by
  obtain ⟨mk, methM, hnamed, hmethM, hstM, habM⟩ := Cond.instanceMethod_spec hinst
  obtain ⟨m8, methM', cM, hn8, hmethM', -, -, -, -, -, -, hsigM⟩ := Cond.codeWith_spec hcode
  cases Option.some.inj (hn8.symm.trans hnamed)
  cases hmethM.symm.trans hmethM'
  obtain ⟨c2, r2, m2, q1, q2, q3, q4, kP, hkP, hkPi⟩ := Cond.selects_spec hsel
  cases hcls.symm.trans q1
  cases (State.methodFound?_of_named hnamed hy).symm.trans q2
  cases hnamed.symm.trans q3
  have hselP : selectMethod e.platform s.vm cellB.cls mk = .method mk := by rw [Launch.admits_selectMethod X.admits]; exact q4
  obtain ⟨vm₁, X₁, hstep₁⟩ := X.invokevirtual hexec hown hlink hnamed hmethM hstM hkP hkPi hy (a := b) (cell := cellB) hcell
    (fun z h => by rw [h] at hobj; cases hobj) hselP hmethM habM hkP hkPi (g := g) hg (argsL := argsL) (rest := rest) (hlen _ hsigM) hstack hdg
  obtain ⟨v, B, X', hpost, hsteps⟩ := hK m meth c ⟨T.setVm vm₁, locs, cells, slots⟩ { g with stack := rest } (.invokevirtual index) mk (Value.ref b :: argsL).toArray X₁ hg hsize hdg hW (X₁.named hnamed) (hpre vm₁ X₁.warmed)
  exact ⟨v, vm₁, B, X₁.warmed, X', hpost, fun target h => hstep₁ _ fun acts => by rw [doInvoke_state]; exact hsteps.trans h⟩
abbrev vx_CVW (R : Room) (s : State) (args : Array Value) (own C : String) (index : Nat) (y : MethodName) (bytes : ByteArray) (maxL : Nat) (ret : Option FieldType) (hh : List (Nat × Nat × Nat × Nat)) (ws : List Cond) (rm : Room) (mc ms n : Nat) : Prop :=
  (rm.cells = mc ∧ rm.slots = ms ∧ rm.frames + 1 ≤ R.frames ∧ 8 + (maxL + 11) + rm.locals ≤ R.locals ∧ (∀ w ∈ ws, ∀ (a' : Array Value) (U : State), s.WarmedH U.vm → w.before a' U = true) ∧ Cond.codeWith y bytes maxL ret hh ∈ ws) ∧
  (Cond.codeWith y bytes maxL ret hh).before args s = true ∧ (Cond.initialized y.cls).before args s = true ∧ (y.cls ≠ "java/lang/invoke/MethodHandle" ∧ y.cls ≠ "java/lang/invoke/VarHandle") ∧
  (∀ sig, parseMethodDescriptor y.desc = some sig → n = sig.parameters.length) ∧ (Cond.methodLink own index y).before args s = true ∧ (Cond.instanceMethod y).before args s = true ∧ (Cond.selects C y y).before args s = true
theorem vx_cwVW {own C : String} {index maxL mc ms : Nat} {y : MethodName} {bytes : ByteArray} {ret : Option FieldType} {hh : List (Nat × Nat × Nat × Nat)} {Ts ws ws' : List Cond} {rm : Room} (n : Nat) (ht : ∀ w ∈ Ts, w.before args s = true) (hT : GoodIn Ts (wsV own index C y ws)) (hw : ws = Cond.codeWith y bytes maxL ret hh :: ws') (hrc : rm.cells = mc) (hrs : rm.slots = ms)
    (hd : y.cls = C ∧ y.cls ≠ "java/lang/invoke/MethodHandle" ∧ y.cls ≠ "java/lang/invoke/VarHandle" ∧ (parseMethodDescriptor y.desc).map (fun d => d.parameters.length) = some n) (hR : rm.frames + 1 ≤ R.frames ∧ 8 + (maxL + 11) + rm.locals ≤ R.locals) :
    vx_CVW R s args own C index y bytes maxL ret hh ws rm mc ms n := by
  obtain ⟨hC, hd⟩ := hd
  subst hC
  have ok : ∀ w ∈ wsV own index y.cls y ws, w.before args s = true := fun w h => ht w (hT w h).1
  have hG : GoodIn Ts ws := fun w h => hT w (by unfold wsV; exact List.mem_append_right _ h)
  have hc : Cond.codeWith y bytes maxL ret hh ∈ ws := by rw [hw]; exact List.mem_cons_self
  refine ⟨⟨hrc, hrs, hR.1, hR.2, pay_in ht hG, hc⟩, ht _ (hG _ hc).1, ok _ (by simp [wsV]), ⟨hd.1, hd.2.1⟩, fun sig h => ?_, ok _ (by simp [wsV]), ok _ (by simp [wsV]), ok _ (by simp [wsV])⟩
  have h2 := hd.2.2
  rw [h] at h2
  exact (Option.some.inj h2).symm
theorem vx_runVW {y : MethodName} {bytes cc : ByteArray} {maxL nL mc ms n index : Nat} {ret : Option FieldType} {hh : List (Nat × Nat × Nat × Nat)} {ws : List Cond} {rm : Room} {Pc : Array Value → State → Prop} {Qc : Array Value → State → Outcome → State → Prop} {free : Addr → Prop} {Ts : List Cond} {own C : String} {b : Addr} {As rest : List Value} {g : JFrame}
    (S : CallFix p m c cc nL s args Ts own) (hM : Met l y ws rm Pc Qc mc ms free) (cw : vx_CVW R s args own C index y bytes maxL ret hh ws rm mc ms n) (hp : PreV s H C b Pc As)
    (hg : g.method = m) (hn : As.length = n) (hsize : g.locals.size = nL) (hstack : g.stack = As.reverse ++ .ref b :: rest) (hW : 2 * g.monitorRoom + (rest.map fun v => v.category).sum ≤ 8) (hdg : decode cc g.pc = .ok (.invokevirtual index, 3)) (hf : cells + mc ≤ R.cells ∧ slots + ms ≤ R.slots) :
    va_Run p l e R s m args below meth c H locs cells slots mc ms g rest (Qc (Value.ref b :: As).toArray) free := by
  obtain ⟨⟨hrc, hrs, hfr, hlo, hws, hcw⟩, hcode, hini, hy, hlen, hl, hin, hse⟩ := cw
  have hK : Back l R p e below s args y 3 8 (PreOf R mc ms Pc) (PostOf Qc mc ms free) := va_backW (hh := hh) (bytes := bytes) (maxL := maxL) (ret := ret) hM hp.1 hrc hrs hfr hlo hws hcw (fun a' U hW => word_at hW (Or.inl (by first | rfl | simp [Cond.onTables, Cond.keeps, Cond.steady])) hini)
  obtain ⟨hx, hb, hml, ho, -⟩ := S
  obtain ⟨-, ⟨cellB, hcB, hoB, hclB⟩, hPc⟩ := hp
  intro T hT X
  obtain ⟨v, vm₁, ⟨U', l2, c2, s2⟩, hW₁, X', ⟨g', mk, t, L, e1, e2, hq, h1, hL, h2, h3⟩, st⟩ := vx_callVW X hx (C := C) (hh := hh) (bytes := bytes) (maxL := maxL) (ret := ret) ho hl hin hse hcode hy hK (by rw [hT]; exact hcB) hoB hclB hg (hsize.trans hml.symm) (argsL := As) (rest := rest) (fun sig h => hn.trans (hlen sig h)) hstack hW (by rw [hb]; exact hdg)
    (fun vm₁ hW₁ => ⟨hf.1, hf.2, hPc (T.setVm vm₁) hT hW₁⟩)
  dsimp only [Pt.U, Pt.locs, Pt.cells, Pt.slots] at X' e1 e2 h1 h2 h3 st
  subst h1; subst h2; subst h3
  exact ⟨v, (T.setVm vm₁).calling g' mk (Value.ref b :: As).toArray, t, U', L, hT, X', hL, e1, e2, hq, st⟩
section
variable {y : MethodName} {bytes cc : ByteArray} {maxL nL mc ms n index : Nat} {ret : Option FieldType} {ws : List Cond} {rm : Room} {Pc : Array Value → State → Prop} {Qc : Array Value → State → Outcome → State → Prop} {XC : String → State → State → Prop} {free : Addr → Prop} {Ts : List Cond} {own C : String} {b : Addr} {As rest : List Value} {g : JFrame}
theorem vx_runVX {hh : List (Nat × Nat × Nat × Nat)} (S : CallFix p m c cc nL s args Ts own) (hM : vx_Met l y ws rm Pc Qc XC mc ms free) (cw : vx_CVW R s args own C index y bytes maxL ret hh ws rm mc ms n) (hp : PreV s H C b Pc As)
    (hg : g.method = m) (hn : As.length = n) (hsize : g.locals.size = nL) (hstack : g.stack = As.reverse ++ .ref b :: rest) (hW : 2 * g.monitorRoom + (rest.map fun v => v.category).sum ≤ 8) (hdg : decode cc g.pc = .ok (.invokevirtual index, 3)) (hf : cells + mc ≤ R.cells ∧ slots + ms ≤ R.slots) :
    vx_Run p l e R s m args below meth c H locs cells slots mc ms g rest (Qc (Value.ref b :: As).toArray) XC free := by
  obtain ⟨⟨hrc, hrs, hfr, hlo, hws, hcw⟩, hcode, hini, hy, hlen, hl, hin, hse⟩ := cw
  have hK : vx_Back l R p e below s args y 3 8 (PreOf R mc ms Pc) (PostOf Qc mc ms free) (vx_Post XC mc ms free) := vx_backW (hh := hh) (bytes := bytes) (maxL := maxL) (ret := ret) hM hp.1 hrc hrs hfr hlo hws hcw (fun a' U hW => word_at hW (Or.inl (by first | rfl | simp [Cond.onTables, Cond.keeps, Cond.steady])) hini)
  obtain ⟨hx, hb, hml, ho, -⟩ := S
  obtain ⟨-, ⟨cellB, hcB, hoB, hclB⟩, hPc⟩ := hp
  intro T hT X
  rcases vx_callVX X hx (C := C) (hh := hh) (bytes := bytes) (maxL := maxL) (ret := ret) ho hl hin hse hcode hy hK (by rw [hT]; exact hcB) hoB hclB hg (hsize.trans hml.symm) (argsL := As) (rest := rest) (fun sig h => hn.trans (hlen sig h)) hstack hW (by rw [hb]; exact hdg)
    (fun vm₁ hW₁ => ⟨hf.1, hf.2, hPc (T.setVm vm₁) hT hW₁⟩) with ⟨v, vm₁, ⟨U', l2, c2, s2⟩, hW₁, X', ⟨g', mk, t, L, e1, e2, hq, h1, hL, h2, h3⟩, st⟩ | ⟨q, vm₁, ⟨U', l2, c2, s2⟩, hW₁, X', ⟨g', mk, t, L, E, ce, e1, e2, hq, hce, hcv, hcl, h1, hL, h2, h3⟩, st⟩
  · dsimp only [Pt.U, Pt.locs, Pt.cells, Pt.slots] at X' e1 e2 h1 h2 h3 st
    subst h1; subst h2; subst h3
    exact Or.inl ⟨v, (T.setVm vm₁).calling g' mk (Value.ref b :: As).toArray, t, U', L, hT, X', hL, e1, e2, hq, st⟩
  · dsimp only [Pt.U, Pt.locs, Pt.cells, Pt.slots] at X' e1 e2 h1 h2 h3 st hcl
    subst h1; subst h2; subst h3
    exact Or.inr ⟨q, (T.setVm vm₁).calling g' mk (Value.ref b :: As).toArray, t, U', L, E, ce, hT, X', hL, e1, e2, hq, hce, hcv, vx_cls hW₁ hcl, st⟩
theorem vx_runSX {hh : List (Nat × Nat × Nat × Nat)} (S : CallFix p m c cc nL s args Ts own) (hM : vx_Met l y ws rm Pc Qc XC mc ms free) (cw : vx_CSW R s args own index y bytes maxL ret hh ws rm mc ms n) (hp : PreS s H Pc As)
    (hg : g.method = m) (hn : As.length = n) (hsize : g.locals.size = nL) (hstack : g.stack = As.reverse ++ rest) (hW : 2 * g.monitorRoom + (rest.map fun v => v.category).sum ≤ 8) (hdg : decode cc g.pc = .ok (.invokestatic index, 3)) (hf : cells + mc ≤ R.cells ∧ slots + ms ≤ R.slots) :
    vx_Run p l e R s m args below meth c H locs cells slots mc ms g rest (Qc As.toArray) XC free := by
  obtain ⟨⟨hrc, hrs, hfr, hlo, hws, hcw⟩, hcode, hini, hy, hlen, hl, hstt⟩ := cw
  have hK : vx_Back l R p e below s args y 3 8 (PreOf R mc ms Pc) (PostOf Qc mc ms free) (vx_Post XC mc ms free) := vx_backW (hh := hh) (bytes := bytes) (maxL := maxL) (ret := ret) hM hp.1 hrc hrs hfr hlo hws hcw (fun a' U hW => word_at hW (Or.inl (by first | rfl | simp [Cond.onTables, Cond.keeps, Cond.steady])) hini)
  obtain ⟨hx, hb, hml, ho, -⟩ := S
  intro T hT X
  rcases vx_callSX X hx (hh := hh) (bytes := bytes) (maxL := maxL) (ret := ret) ho hl hstt hini hcode hy hK hg (hsize.trans hml.symm) (argsL := As) (rest := rest) (fun sig h => hn.trans (hlen sig h)) hstack hW (by rw [hb]; exact hdg)
    (fun vm₁ hW₁ => ⟨hf.1, hf.2, hp.2 (T.setVm vm₁) hT hW₁⟩) with ⟨v, vm₁, ⟨U', l2, c2, s2⟩, hW₁, X', ⟨g', mk, t, L, e1, e2, hq, h1, hL, h2, h3⟩, st⟩ | ⟨q, vm₁, ⟨U', l2, c2, s2⟩, hW₁, X', ⟨g', mk, t, L, E, ce, e1, e2, hq, hce, hcv, hcl, h1, hL, h2, h3⟩, st⟩
  · dsimp only [Pt.U, Pt.locs, Pt.cells, Pt.slots] at X' e1 e2 h1 h2 h3 st
    subst h1; subst h2; subst h3
    exact Or.inl ⟨v, (T.setVm vm₁).calling g' mk As.toArray, t, U', L, hT, X', hL, e1, e2, hq, st⟩
  · dsimp only [Pt.U, Pt.locs, Pt.cells, Pt.slots] at X' e1 e2 h1 h2 h3 st hcl
    subst h1; subst h2; subst h3
    exact Or.inr ⟨q, (T.setVm vm₁).calling g' mk As.toArray, t, U', L, E, ce, hT, X', hL, e1, e2, hq, hce, hcv, vx_cls hW₁ hcl, st⟩
end
end VXH
theorem vx_ofWH {l : Launch} {y : MethodName} {ws ws' : List Cond} {rm : Room} {Pc : Array Value → State → Prop} {Qc : Array Value → State → Outcome → State → Prop} {XC : String → State → State → Prop} {mc ms : Nat} {free : Addr → Prop} {cc : ByteArray} {maxL : Nat} {ret : Option FieldType} {hh : List (Nat × Nat × Nat × Nat)}
    (hy : plainName y.cls = true) (hw : ws = Cond.codeWith y cc maxL ret hh :: ws')
    (body : ∀ p e s m args below meth c s₁, BodyLoose p l y (headSpec ws rm) cc maxL ret e s m args below meth c s₁ → c.maxLocals = maxL → Pc args s →
      W p l e (headSpec ws rm).room s m args below meth c s.heap [] 0 0 (vx_MQ below Qc XC args s mc ms free) (entryFrame m args maxL)) : vx_Met l y ws rm Pc Qc XC mc ms free := by
  refine MetFree.of_bodyS (code := cc) (maxLocals := maxL) (ret := ret) hy ?_ ?_
  · intro args s m h hn
    obtain ⟨m9, meth, c, hn9, h1, h2, h3, h4, -, h5, h6, -⟩ := Cond.codeWith_spec (atoms_spec (ws := ws) h _ (by rw [hw]; exact List.mem_cons_self))
    cases hn.symm.trans hn9
    exact ⟨meth, c, h1, h2, h3, h4, h5, h6⟩
  · intro p e s m args below meth c s₁ B hml hP _
    have hh0 : s₁.heap = s.heap := by rw [B.state]; rfl
    obtain ⟨t, a1, o, b1, b2, b3⟩ := body p e s m args below meth c s₁ B hml hP s₁ hh0 (Stand.of_body B)
    exact ⟨t, o, a1, b1, b2, b3⟩
/-! ===== END ===== -/

/-! ===== BEGIN what the machine throws by itself, no traces kept ===== -/
section VXM
set_option maxHeartbeats 1000000 in
/-- the machine throws cls with the message text, no traces kept: from its note over the frame g to 'throwing' over the same frame (follows the proofs of Stand.vmThrowsMessage, Shelf/KitTracedVmS.lean, and Stand.throwsMessageColdBareV, StandMessageColdV.lean, without the step out of the frame) -/
theorem vx_vmAt {p : Program} {l : Launch} {e : Env} {R : Room} {s : State} {m₀ : MethodId} {args : Array Value} {below : List Frame} {meth : Method} {c : Code} {W : State} {locs : List Loc} {cells slots : Nat}
    (X : Stand p l e R s m₀ args below meth c W locs cells slots) (hexec : p.tables.exec = Jvm.exec) (htr : e.platform.stackTraces = false) {cls : String} {names : List String} {text : String}
    (hcls : Bundle.fit cls = true) (hnames : ∀ n ∈ names, Bundle.fit n = true) (hsoe : (cls == "java/lang/StackOverflowError") = false) (hoom : (cls == "java/lang/OutOfMemoryError") = false)
    (h : ∀ a ∈ Bundle.messageArmAtoms cls names, a.before args s = true)
    (hlocs : ∀ x ∈ locs, ∀ cell, s.heap[x.base]? = some cell → cell.vm.isStatics = false)
    (htext : (text == notModelled) = false) (hlimit : ¬ (stringBytes (stringToUtf16 text)).size > e.platform.arrayLengthLimit) (hheap : ¬ (stringBytes (stringToUtf16 text)).size * componentBytes .byte > e.platform.maxHeapBytes)
    {g : JFrame} (hg : g.method = m₀) (hsize : g.locals.size = c.maxLocals)
    (hRframes : names.length + 4 < R.frames) (hRlocals : 2 * g.monitorRoom + (g.stack.map fun v => v.category).sum + 10240 ≤ R.locals) (hshort : 13 * names.length + 55 ≤ 10240)
    (hRcells : cells + 3 ≤ R.cells) (hRslots : slots + ((stringBytes (stringToUtf16 text)).size + 4 + 6) ≤ R.slots) (hlocks : meth.locks = false) :
    ∃ (S : State) (q : Addr) (ce : Cell), (∀ target, Steps p.tables e below ((S.setTop g).pushFrame (.throwing q)) target → Steps p.tables e below ((W.setTop g).pushFrame (.throwNew cls (some text) none)) target) ∧
      Stand p l e R s m₀ args below meth c S locs (cells + 3) (slots + ((stringBytes (stringToUtf16 text)).size + 4 + 6)) ∧ S.heap[q]? = some ce ∧ s.vm.findClass cls = some ce.cls ∧ ce.vm = .none := by
  have howns : e.platform.frameOwnsMonitors = true := by rw [X.admits.platform]
  have hfin : e.platform.finalization = false := by rw [X.admits.platform]
  have hpl : e.platform.magicAccessors = ({} : Platform).magicAccessors := by rw [X.admits.platform]
  have a : ∀ x, x ∈ Bundle.messageArmAtoms cls names → x.holds args s none s [] = true := fun x hx => h x hx
  obtain ⟨T, Z0, L, -, Y⟩ := ThrowableC.of_atoms (args := args) howns hfin hpl (fun x hx => h x (by simp [Bundle.messageArmAtoms, hx]))
  obtain ⟨Z, M, LZ, LM, hnZ⟩ := Init0T.ofS_atoms (args := args) hpl L Y (fun x hx => h x (by simp [Bundle.messageArmAtoms, hx]))
  obtain ⟨P1, Ps, hlen, L1, hL, hP1m, hlink1, hlink⟩ := Bundle.chainS (args := args) hpl hnZ names cls hcls hnames (fun x hx => h x (by simp [Bundle.messageArmAtoms, hx]))
  obtain ⟨Zs, LZs, hn4, hfitv, hfitc⟩ := StringT.of_atoms (args := args) (fun x hx => h x (by simp [Bundle.messageArmAtoms, hx]))
  have hfound : s.vm.findClass cls = some P1.m.cls := findClass_of_methodNamed hP1m
  obtain ⟨c1, kX, hc1, hk, hord, -, -, hn6⟩ := Cond.instantiable_spec (a (.instantiable cls 6) (by simp [Bundle.messageArmAtoms]))
  cases Option.some.inj (hc1.symm.trans hfound)
  have hinit := Cond.initialized_spec hfound hk (a (.initialized cls) (by simp [Bundle.messageArmAtoms]))
  have hctor : kX.findMethod "<init>" "(Ljava/lang/String;)V" = some P1.m.idx := findMethod_of_methodNamed hP1m hk
  have hsel0 : selectMethod e.platform s.vm P1.m.cls T.fill0 = .method T.fill0 := by
    obtain ⟨c2, r2, m2, q1, q2, q3, q4, -⟩ := Cond.selects_spec (a (.selects cls Bundle.tFill0 Bundle.tFill0) (by simp [Bundle.messageArmAtoms]))
    cases Option.some.inj (q1.symm.trans hfound)
    cases Option.some.inj (q2.symm.trans (State.methodFound?_of_named Y.fill0 (by decide)))
    cases Option.some.inj (q3.symm.trans Y.fill0)
    rw [Launch.admits_selectMethod X.admits]; exact q4
  have hselF : selectMethod e.platform s.vm P1.m.cls T.fill = .method T.fill := by
    obtain ⟨c2, r2, m2, q1, q2, q3, q4, -⟩ := Cond.selects_spec (a (.selects cls Bundle.tFill Bundle.tFill) (by simp [Bundle.messageArmAtoms]))
    cases Option.some.inj (q1.symm.trans hfound)
    cases Option.some.inj (q2.symm.trans (State.methodFound?_of_named Y.fill (by decide)))
    cases Option.some.inj (q3.symm.trans Y.fill)
    rw [Launch.admits_selectMethod X.admits]; exact q4
  obtain ⟨cellS0, hcS0, hiss⟩ := Y.statics
  obtain ⟨u0, hu0⟩ := Cond.staticRefV Y.unassigned L.unassignedStatic L.statics hcS0 hiss (a (.isRef (.static Bundle.tN "UNASSIGNED_STACK" Bundle.steD)) (by simp [Bundle.messageArmAtoms]))
  obtain ⟨sen, hsen⟩ := Cond.staticRefV Y.sentinel L.sentinelStatic L.statics hcS0 hiss (a (.isRef (.static Bundle.tN "SUPPRESSED_SENTINEL" Bundle.listD)) (by simp [Bundle.messageArmAtoms]))
  obtain ⟨ci198, i198, fB, hk198, hg198, ha198, hsB, -, hnB, htB, hffB⟩ := Cond.ownField (t := .object "java/lang/Object") Y.found L.cls (by decide +kernel) (a (.fieldLink Bundle.tN 198 Bundle.tN "backtrace" "Ljava/lang/Object;") (by simp [Bundle.messageArmAtoms])) (a (.lays Bundle.tN Bundle.tN "backtrace" "Ljava/lang/Object;") (by simp [Bundle.messageArmAtoms])) e.platform hpl
  obtain ⟨cellS, hcS', heS, -, hkeep⟩ := X.same.2.2.2.2.2 T.aS cellS0 hcS0
  have hcellS : W.heap[T.aS]? = some cellS := hcS'
  have hout' : ∀ i, (⟨T.aS, i⟩ : Loc) ∉ locs := fun i hmem => by
    have := hlocs _ hmem cellS0 hcS0
    rw [hiss] at this; cases this
  have hknownS : cellS.vm ≠ .unknown := by
    rw [heS]; intro hu
    rw [show cellS0.vm = .unknown from hu] at hiss
    cases hiss
  have hvU : cellS.slots[T.fUnassigned.slot]? = some u0.v := by rw [hkeep _ (hout' _)]; exact hu0
  have hvSen : cellS.slots[T.fSentinel.slot]? = some sen.v := by rw [hkeep _ (hout' _)]; exact hsen
  obtain ⟨iM, hffM⟩ := Y.msg
  obtain ⟨tyC, dC, hdC, hdnC⟩ := Cond.laysAt hfound hk Y.cause (a (.lays cls Bundle.tN "cause" "Ljava/lang/Throwable;") (by simp [Bundle.messageArmAtoms]))
  obtain ⟨tyS, dS, hdS, hdnS⟩ := Cond.laysAt hfound hk Y.stack (a (.lays cls Bundle.tN "stackTrace" Bundle.steD) (by simp [Bundle.messageArmAtoms]))
  obtain ⟨tyP, dP, hdP, hdnP⟩ := Cond.laysAt hfound hk Y.supp (a (.lays cls Bundle.tN "suppressedExceptions" Bundle.listD) (by simp [Bundle.messageArmAtoms]))
  obtain ⟨tyM, dM, hdM, hdnM⟩ := Cond.laysAt hfound hk hffM (a (.lays cls Bundle.tN "detailMessage" "Ljava/lang/String;") (by simp [Bundle.messageArmAtoms]))
  obtain ⟨tyB, dB, hdB, hdnB⟩ := Cond.laysAt hfound hk hffB (a (.lays cls Bundle.tN "backtrace" "Ljava/lang/Object;") (by simp [Bundle.messageArmAtoms]))
  have bC := Cond.laysApart hdB hdC hdnB hdnC (by rw [hnB, Y.causeName]; decide)
  have bS := Cond.laysApart hdB hdS hdnB hdnS (by rw [hnB, Y.stackName]; decide)
  have bP := Cond.laysApart hdB hdP hdnB hdnP (by rw [hnB, Y.suppName]; decide)
  have hbk : ((preparedCellV T.toThrowableT (freshCell P1.m.cls kX) (W.heap.size + 2) u0 sen).withEntry W.cur).slots[fB.slot]? = some .null := by
    have := fresh_default (c := P1.m.cls) tyB
    rw [htB] at this
    simpa [preparedCellV, Cell.setSlot, Cell.withEntry, Array.getElem?_setIfInBounds, bC, bS, bP, bC.symm, bS.symm, bP.symm, defaultValue] using this
  have tkC := Takes.of_laid (v := .ref (W.heap.size + 2)) hk hord tyC (by rw [Y.causeType]; rfl)
  have tkS := Takes.of_laid (v := u0.v) hk hord tyS (by rw [Y.stackType]; exact fits_refV_array _ u0)
  have tkP := Takes.of_laid (v := sen.v) hk hord tyP (by rw [Y.suppType]; exact fits_refV_object _ sen)
  have tkM := Takes.of_laid (v := .ref (W.heap.size + 1)) hk hord tyM (by rw [Y.msgType]; rfl)
  have hskip : SkipFacts T e.platform s (fun u => u) u0 ((preparedCellV T.toThrowableT (freshCell P1.m.cls kX) (W.heap.size + 2) u0 sen).withEntry W.cur) := ⟨{ ci198 := ci198, i198 := i198, fBack := fB }, ⟨hk198, hg198, ha198, hsB⟩, hbk, fun _ _ => rfl⟩
  have h0 : At W g.method c below := by rw [hg]; exact X.here
  obtain ⟨hbeyond, hfreeW⟩ := X.vmMayThrow hsize (.throwNew cls (some text) none) (fun f hf => by cases hf) rfl hRlocals
  have hfr' : W.frames.length + Ps.length + 4 < (e.platform.stackLimits W.me).1 := by have := X.framesAbove hRframes; omega
  have hwd' : (stackUse (.java g :: W.frames.tail)).2 + 13 * Ps.length + 55 ≤ (e.platform.stackLimits W.me).2 := by have := X.stackAbove hsize (K := 13 * Ps.length + 55) (by omega); omega
  have hslots : W.slotsUsed + (stringBytes (stringToUtf16 text)).size + Zs.kS.instanceTypes.size + kX.instanceTypes.size ≤ e.platform.maxSlots := by
    have := X.slotsAbove hRslots
    rw [hn4, hn6]
    omega
  obtain ⟨vm', hW', st⟩ := Steps.vmThrowsMessageColdByV p (s₀ := s) (S := W) (g := g) h0 hexec T L Z LZ M LM X.warmed (t := W.cur) rfl Zs LZs P1 L1 Ps hL hlink1 hlink hsoe hoom hfound hk hinit hord hctor
    (Launch.admits_hotImplicitExceptions X.admits) hbeyond hfreeW htext hlimit hheap (X.cellsAbove hRcells) hslots (hfitv _) (hfitc _)
    (Nn := fun u => u) heapOnly_id (fun _ _ => rfl) (fun _ => rfl) (fun u x y => setCell_twice _ _ _ _) (fun _ => Nat.le_refl _) (cN := ((preparedCellV T.toThrowableT (freshCell P1.m.cls kX) (W.heap.size + 2) u0 sen).withEntry W.cur))
    hsel0 hcellS hknownS hvU tkS (fun _ hu => hu) (fun _ hu => hu) rfl rfl rfl (by simp [preparedCellV, Cell.setSlot, Cell.withEntry]) hskip (fun _ _ hA hW _ hroom _ hrest => L.nativeOff p htr hA hW hroom hrest) hselF hvSen tkC tkP tkM Y.objLocals rfl hfr' hwd'
  rw [plainBareV_eq T.toThrowableT (W.heap.size + 2) u0 sen (.ref (W.heap.size + 1)) W.cur rfl rfl] at st
  obtain ⟨-, -, w3, w4, -, -, -⟩ := withThrown_facts e.platform W Zs text P1.m.cls kX
  have X3 := ((X.pushed (bytesOf Zs.cB (stringToUtf16 text))).pushed (stringAt Zs.cS Zs.kS Zs.fv Zs.fc (stringToUtf16 text) W.heap.size)).pushed (freshCell P1.m.cls kX)
  rw [← withString_eq] at X3
  have X4 := X3.noted hW'
  have ha : (W.heap.size + 2) < ((withThrown W Zs text P1.m.cls kX).setVm vm').heap.size := by show _ < (withThrown W Zs text P1.m.cls kX).heap.size; rw [w3]; omega
  have hcell : ((withThrown W Zs text P1.m.cls kX).setVm vm').heap[(W.heap.size + 2)]? = some (freshCell P1.m.cls kX) := w4
  have X5 := ((((X4.stored hcell T.fCause.slot (.ref (W.heap.size + 2))).storedAgain ha T.fStack.slot u0.v).storedAgain ha T.fSupp.slot sen.v).storedAgain ha T.fStack.slot u0.v).storedAgain ha T.fMsg.slot (.ref (W.heap.size + 1))
  obtain ⟨g₁, hfrM⟩ := X5.frames_eq
  have hU : ((((withThrown W Zs text P1.m.cls kX).setVm vm').setCell (W.heap.size + 2) (plainBareV T.toThrowableT (freshCell P1.m.cls kX) (W.heap.size + 2) u0 sen (.ref (W.heap.size + 1)))).setTop g).pushFrame (.throwing (W.heap.size + 2)) = (((withThrown W Zs text P1.m.cls kX).setVm vm').setCell (W.heap.size + 2) (plainBareV T.toThrowableT (freshCell P1.m.cls kX) (W.heap.size + 2) u0 sen (.ref (W.heap.size + 1)))).setFrames (.throwing (W.heap.size + 2) :: .java g :: below) := by
    rw [State.pushFrame, State.frames_setTop _ hfrM, State.setTop_of_frames _ hfrM, State.setFrames_setFrames]
  have b1 : (bytesOf Zs.cB (stringToUtf16 text)).slots.size = (stringBytes (stringToUtf16 text)).size := by
    rw [(Cell.writeAll_facts _ _).2.2]; simp [bytes0]
  have b2 : (stringAt Zs.cS Zs.kS Zs.fv Zs.fc (stringToUtf16 text) W.heap.size).slots.size = 4 := by simp [string0, Cell.setSlot, hn4]
  have b3 : (freshCell P1.m.cls kX).slots.size = 6 := by simp [hn6]
  rw [b1, b2, b3] at X5
  have e9 : slots + (stringBytes (stringToUtf16 text)).size + 4 + 6 = slots + ((stringBytes (stringToUtf16 text)).size + 4 + 6) := by omega
  rw [e9] at X5
  simp only [List.append_assoc, List.cons_append, List.nil_append] at X5
  refine ⟨((withThrown W Zs text P1.m.cls kX).setVm vm').setCell (W.heap.size + 2) (plainBareV T.toThrowableT (freshCell P1.m.cls kX) (W.heap.size + 2) u0 sen (.ref (W.heap.size + 1))), W.heap.size + 2, _, fun target ht => st _ (by rw [X.tail, ← hU]; exact ht),
    X5.forget (fun y hy => ?_), heapAt_setCell_self _ ha, hfound, rfl⟩
  simp only [List.mem_cons, List.not_mem_nil, or_false] at hy
  have hge : s.heap.size ≤ W.heap.size := X.same.2.1
  rcases hy with rfl | rfl | rfl | rfl | rfl <;> exact Nat.le_trans hge (Nat.le_add_right _ 2)
set_option maxHeartbeats 1000000 in
/-- the machine throws NullPointerException, no traces kept: from its note over the frame g to 'throwing' over the same frame (follows the proof of Stand.vmThrowsNpe, Shelf42/KT2.lean; throwsNpeColdBareVAt, Shelf42/NT91.lean, called) -/
theorem vx_npeAt {p : Program} {l : Launch} {e : Env} {R : Room} {s : State} {m₀ : MethodId} {args : Array Value} {below : List Frame} {meth : Method} {c : Code} {W : State} {locs : List Loc} {cells slots : Nat}
    (X : Stand p l e R s m₀ args below meth c W locs cells slots) (hexec : p.tables.exec = Jvm.exec) (htr : e.platform.stackTraces = false) {n : Nat}
    (h : ∀ a ∈ Bundle.npeArmAtoms n, a.before args s = true)
    (hlocs : ∀ x ∈ locs, ∀ cell, s.heap[x.base]? = some cell → cell.vm.isStatics = false)
    {g : JFrame} (hg : g.method = m₀) (hsize : g.locals.size = c.maxLocals)
    (hRframes : 7 < R.frames) (hRlocals : 2 * g.monitorRoom + (g.stack.map fun v => v.category).sum + 10240 ≤ R.locals)
    (hRcells : cells + 1 ≤ R.cells) (hRslots : slots + n ≤ R.slots) (hlocks : meth.locks = false) :
    ∃ (S : State) (q : Addr) (ce : Cell), (∀ target, Steps p.tables e below ((S.setTop g).pushFrame (.throwing q)) target → Steps p.tables e below ((W.setTop g).pushFrame (.throwNew "java/lang/NullPointerException" none none)) target) ∧
      Stand p l e R s m₀ args below meth c S locs (cells + 1) (slots + n) ∧ S.heap[q]? = some ce ∧ s.vm.findClass "java/lang/NullPointerException" = some ce.cls ∧ ce.vm = .none := by
  have howns : e.platform.frameOwnsMonitors = true := by rw [X.admits.platform]
  have hfin : e.platform.finalization = false := by rw [X.admits.platform]
  have hpl : e.platform.magicAccessors = ({} : Platform).magicAccessors := by rw [X.admits.platform]
  have hpl2 : e.platform.arrayCloneIsPublic = true := by rw [X.admits.platform]
  have a' : ∀ x, x ∈ Bundle.npeArmAtoms n → x.holds args s none s [] = true := fun x hx => h x hx
  obtain ⟨T, Z, L, LZ, Y⟩ := ThrowableC.of_atoms (args := args) howns hfin hpl (fun x hx => h x (by simp [Bundle.npeArmAtoms, hx]))
  obtain ⟨N, LN, hcN, hnNF, hordN, hffS⟩ := NpeC.of_atoms (args := args) hpl hpl2 L Y (fun x hx => h x (by simp [Bundle.npeArmAtoms, hx]))
  obtain ⟨P1, L1, hP1m, hP1s⟩ := PassC.of_atoms (args := args) (s := s) hpl (X := Bundle.nN) (Y := Bundle.rN) (by decide) (by decide) LibCode.NullPointerException.Init0.at_0 LibCode.NullPointerException.Init0.at_1 LibCode.NullPointerException.Init0.at_4 (fun x hx => h x (by simp [Bundle.npeArmAtoms, hx]))
  obtain ⟨PR, LR, hPRm, hPRs⟩ := PassC.of_atoms (args := args) (s := s) hpl (X := Bundle.rN) (Y := Bundle.eN) (by decide) (by decide) LibCode.RuntimeException.Init0.at_0 LibCode.RuntimeException.Init0.at_1 LibCode.RuntimeException.Init0.at_4 (fun x hx => h x (by simp [Bundle.npeArmAtoms, hx]))
  obtain ⟨PE, LEx, hPEm, hPEs⟩ := PassC.of_atoms (args := args) (s := s) hpl (X := Bundle.eN) (Y := Bundle.tN) (by decide) (by decide) LibCode.Exception.Init0.at_0 LibCode.Exception.Init0.at_1 LibCode.Exception.Init0.at_4 (fun x hx => h x (by simp [Bundle.npeArmAtoms, hx]))
  have hfound : s.vm.findClass Bundle.nN = some P1.m.cls := findClass_of_methodNamed hP1m
  have ecls : N.cN = P1.m.cls := Option.some.inj (hcN.symm.trans hfound)
  have hk : s.vm.classes[P1.m.cls]? = some N.kN := by rw [← ecls]; exact LN.cls
  have hinit := Cond.initialized_spec hfound hk (a' (.initialized Bundle.nN) (by simp [Bundle.npeArmAtoms]))
  have hctor : N.kN.findMethod "<init>" "()V" = some P1.m.idx := findMethod_of_methodNamed hP1m hk
  obtain ⟨c1, k1, hc1, hk1, -, -, -, hn⟩ := Cond.instantiable_spec (a' (.instantiable Bundle.nN n) (by simp [Bundle.npeArmAtoms]))
  cases Option.some.inj (hc1.symm.trans hfound)
  cases Option.some.inj (hk1.symm.trans hk)
  have hfsz : (freshCell P1.m.cls N.kN).slots.size = n := by simp [hn]
  have hlink1 : P1.sup = PR.m := Option.some.inj (hP1s.symm.trans hPRm)
  have hlinkR : PR.sup = PE.m := Option.some.inj (hPRs.symm.trans hPEm)
  have hlinkE : PE.sup = Z.m T.toThrowableT := Option.some.inj (hPEs.symm.trans Y.init0)
  have hLs : ∀ P, P ∈ [PR, PE] → P.Links0 e.platform s := fun P hP => by
    simp only [List.mem_cons, List.not_mem_nil, or_false] at hP
    rcases hP with rfl | rfl
    · exact LR
    · exact LEx
  have hsel0 : selectMethod e.platform s.vm P1.m.cls T.fill0 = .method T.fill0 := by
    obtain ⟨c2, r2, m2, q1, q2, q3, q4, -⟩ := Cond.selects_spec (a' (.selects Bundle.nN Bundle.tFill0 Bundle.tFill0) (by simp [Bundle.npeArmAtoms]))
    cases Option.some.inj (q1.symm.trans hfound)
    cases Option.some.inj (q2.symm.trans (State.methodFound?_of_named Y.fill0 (by decide)))
    cases Option.some.inj (q3.symm.trans Y.fill0)
    rw [Launch.admits_selectMethod X.admits]; exact q4
  have hselF : selectMethod e.platform s.vm P1.m.cls T.fill = .method N.fill := by
    obtain ⟨c2, r2, m2, q1, q2, q3, q4, -⟩ := Cond.selects_spec (a' (.selects Bundle.nN Bundle.tFill Bundle.nFill) (by simp [Bundle.npeArmAtoms]))
    cases Option.some.inj (q1.symm.trans hfound)
    cases Option.some.inj (q2.symm.trans (State.methodFound?_of_named Y.fill (by decide)))
    cases Option.some.inj (q3.symm.trans hnNF)
    rw [Launch.admits_selectMethod X.admits]; exact q4
  obtain ⟨cellS0, hcS0, hiss⟩ := Y.statics
  obtain ⟨u0, hu0⟩ := Cond.staticRefV Y.unassigned L.unassignedStatic L.statics hcS0 hiss (a' (.isRef (.static Bundle.tN "UNASSIGNED_STACK" Bundle.steD)) (by simp [Bundle.npeArmAtoms]))
  obtain ⟨sen, hsen⟩ := Cond.staticRefV Y.sentinel L.sentinelStatic L.statics hcS0 hiss (a' (.isRef (.static Bundle.tN "SUPPRESSED_SENTINEL" Bundle.listD)) (by simp [Bundle.npeArmAtoms]))
  obtain ⟨ci198, i198, fB, hk198, hg198, ha198, hsB, -, hnB, htB, hffB⟩ := Cond.ownField (t := .object "java/lang/Object") Y.found L.cls (by decide +kernel) (a' (.fieldLink Bundle.tN 198 Bundle.tN "backtrace" Bundle.objD) (by simp [Bundle.npeArmAtoms])) (a' (.lays Bundle.tN Bundle.tN "backtrace" Bundle.objD) (by simp [Bundle.npeArmAtoms])) e.platform hpl
  obtain ⟨cellS, hcS', heS, -, hkeep⟩ := X.same.2.2.2.2.2 T.aS cellS0 hcS0
  have hcellS : W.heap[T.aS]? = some cellS := hcS'
  have hout' : ∀ i, (⟨T.aS, i⟩ : Loc) ∉ locs := fun i hmem => by
    have := hlocs _ hmem cellS0 hcS0
    rw [hiss] at this; cases this
  have hknownS : cellS.vm ≠ .unknown := by
    rw [heS]; intro hu
    rw [show cellS0.vm = .unknown from hu] at hiss
    cases hiss
  have hvU : cellS.slots[T.fUnassigned.slot]? = some u0.v := by rw [hkeep _ (hout' _)]; exact hu0
  have hvSen : cellS.slots[T.fSentinel.slot]? = some sen.v := by rw [hkeep _ (hout' _)]; exact hsen
  obtain ⟨tyC, dC, hdC, hdnC⟩ := Cond.laysAt hfound hk Y.cause (a' (.lays Bundle.nN Bundle.tN "cause" "Ljava/lang/Throwable;") (by simp [Bundle.npeArmAtoms]))
  obtain ⟨tyS, dS, hdS, hdnS⟩ := Cond.laysAt hfound hk Y.stack (a' (.lays Bundle.nN Bundle.tN "stackTrace" Bundle.steD) (by simp [Bundle.npeArmAtoms]))
  obtain ⟨tyP, dP, hdP, hdnP⟩ := Cond.laysAt hfound hk Y.supp (a' (.lays Bundle.nN Bundle.tN "suppressedExceptions" Bundle.listD) (by simp [Bundle.npeArmAtoms]))
  obtain ⟨tyX, dX, hdX, hdnX⟩ := Cond.laysAt hfound hk hffS (a' (.lays Bundle.nN Bundle.nN "extendedMessageState" "I") (by simp [Bundle.npeArmAtoms, Bundle.npeAtoms]))
  obtain ⟨hnX, htX⟩ := State.fieldFound?_type hffS (t := .int) (by decide +kernel)
  have xC := Cond.laysApart hdC hdX hdnC hdnX (by rw [hnX, Y.causeName]; decide)
  have xS := Cond.laysApart hdS hdX hdnS hdnX (by rw [hnX, Y.stackName]; decide)
  have xP := Cond.laysApart hdP hdX hdnP hdnX (by rw [hnX, Y.suppName]; decide)
  have hv0 : (freshCell P1.m.cls N.kN).slots[N.fState.slot]? = some (.int 0) := by
    have := fresh_default (c := P1.m.cls) tyX
    rw [htX] at this; exact this
  obtain ⟨tyB, dB, hdB, hdnB⟩ := Cond.laysAt hfound hk hffB (a' (.lays Bundle.nN Bundle.tN "backtrace" Bundle.objD) (by simp [Bundle.npeArmAtoms]))
  have bC := Cond.laysApart hdB hdC hdnB hdnC (by rw [hnB, Y.causeName]; decide)
  have bS := Cond.laysApart hdB hdS hdnB hdnS (by rw [hnB, Y.stackName]; decide)
  have bP := Cond.laysApart hdB hdP hdnB hdnP (by rw [hnB, Y.suppName]; decide)
  have bX := Cond.laysApart hdB hdX hdnB hdnX (by rw [hnB, hnX]; decide)
  have hbk : ((npeCell N.toNpeT (preparedCellV T.toThrowableT (freshCell P1.m.cls N.kN) W.heap.size u0 sen) W.cur).withEntry W.cur).slots[fB.slot]? = some .null := by
    have := fresh_default (c := P1.m.cls) tyB
    rw [htB] at this
    simpa [npeCell, preparedCellV, Cell.setSlot, Cell.withEntry, Array.getElem?_setIfInBounds, bC, bS, bP, bX, bC.symm, bS.symm, bP.symm, bX.symm, defaultValue] using this
  have tkC := Takes.of_laid (v := .ref W.heap.size) hk hordN tyC (by rw [Y.causeType]; rfl)
  have tkS := Takes.of_laid (v := u0.v) hk hordN tyS (by rw [Y.stackType]; exact fits_refV_array _ u0)
  have tkP := Takes.of_laid (v := sen.v) hk hordN tyP (by rw [Y.suppType]; exact fits_refV_object _ sen)
  have tkX := Takes.of_laid (v := .int 1) hk hordN tyX (by rw [htX]; rfl)
  have hskip : SkipFacts T e.platform s (fun u => u) u0 ((npeCell N.toNpeT (preparedCellV T.toThrowableT (freshCell P1.m.cls N.kN) W.heap.size u0 sen) W.cur).withEntry W.cur) := ⟨{ ci198 := ci198, i198 := i198, fBack := fB }, ⟨hk198, hg198, ha198, hsB⟩, hbk, fun _ _ => rfl⟩
  obtain ⟨vm', X3, st, -⟩ := X.throwsNpeColdBareVAt hexec hg hsize T L Z LZ N LN P1 L1 [PR, PE] hLs hlink1 ⟨hlinkR, hlinkE, trivial⟩ hfound hk hinit hordN hctor hsel0 hselF hcellS hknownS hvU hvSen
    hv0 xC xS xP tkC tkS tkP tkX Y.objLocals hskip (fun _ _ hA hW _ hroom _ hrest => L.nativeOff p htr hA hW hroom hrest) (by simpa using hRframes) hRlocals (by simp) hRcells (by rw [hn]; exact hRslots)
  have hlt : W.heap.size < ((W.pushCell (freshCell P1.m.cls N.kN)).setVm vm').heap.size := by
    show W.heap.size < (W.pushCell (freshCell P1.m.cls N.kN)).heap.size
    rw [State.heap_size_pushCell]; omega
  rw [hfsz] at X3
  obtain ⟨g₁, hfrM⟩ := X3.frames_eq
  have hU : ((((W.pushCell (freshCell P1.m.cls N.kN)).setVm vm').setCell W.heap.size (npeBareV T.toThrowableT N.toNpeT (freshCell P1.m.cls N.kN) W.heap.size u0 sen)).setTop g).pushFrame (.throwing W.heap.size) = (((W.pushCell (freshCell P1.m.cls N.kN)).setVm vm').setCell W.heap.size (npeBareV T.toThrowableT N.toNpeT (freshCell P1.m.cls N.kN) W.heap.size u0 sen)).setFrames (.throwing W.heap.size :: .java g :: below) := by
    rw [State.pushFrame, State.frames_setTop _ hfrM, State.setTop_of_frames _ hfrM, State.setFrames_setFrames]
  refine ⟨_, W.heap.size, _, fun target ht => st.trans (by rw [← hU]; exact ht), X3.forget (fun y hy => ?_), heapAt_setCell_self _ hlt, hfound, rfl⟩
  simp only [List.mem_cons, List.not_mem_nil, or_false] at hy
  have hge : s.heap.size ≤ W.heap.size := X.same.2.1
  rcases hy with rfl | rfl | rfl | rfl | rfl <;> exact hge
/-- the words of a machine's NullPointerException, but the four that speak of the heap -/
def vx_atN (n : Nat) : List Cond := (Bundle.npeArmAtoms n).filter vx_no
/-- the words of a machine's throw with a message, but the four that speak of the heap -/
def vx_atM (X : String) (names : List String) : List Cond := (Bundle.messageArmAtoms X names).filter vx_no
section
variable {p : Program} {l : Launch} {e : Env} {R : Room} {s : State} {m : MethodId} {args : Array Value} {below : List Frame} {meth : Method} {c : Code} {H : Heap} {locs : List Loc} {cells slots : Nat}
/-- a frame seen from a rebased start, seen from the first start again -/
theorem vx_back9 {T S : State} {R' : Room} {k n : Nat} (X : Stand p l e R s m args below meth c T locs cells slots) (Y : Stand p l e R' ((T.setVm s.vm).setFrames (.invoking m args :: below)) m args below meth c T [] 0 0) (Z : Stand p l e R' ((T.setVm s.vm).setFrames (.invoking m args :: below)) m args below meth c S [] k n) :
    Stand p l e R s m args below meth c S locs (cells + k) (slots + n) := by
  have hW0 : s.WarmedH ((T.setVm s.vm).setFrames (.invoking m args :: below)).vm := State.WarmedH.refl s
  refine { admits := X.admits, cas := X.cas, clock := X.clock, frames := X.frames, room := X.room, hears := X.hears, method := X.method, code := X.code, here := Z.here, tail := Z.tail, warmed := State.WarmedH.trans hW0 Z.warmed, limits := Z.limits.trans (Y.limits.symm.trans X.limits), bytes := Z.bytes.trans (Y.bytes.symm.trans X.bytes), same := ?_ }
  obtain ⟨e1, e2⟩ := Z.same
  rw [State.setFrames_setFrames] at e1
  have h2 : (T.setVm s.vm).sameButNew (S.setVm s.vm) [] k n := ⟨e1, e2⟩
  have h3 := X.same.trans h2
  rw [List.append_nil] at h3
  exact h3
/-- from the machine's note that E is thrown here with this text -/
def vx_Note (p : Program) (l : Launch) (e : Env) (R : Room) (s : State) (m : MethodId) (args : Array Value) (below : List Frame) (meth : Method) (c : Code) (H : Heap) (locs : List Loc) (cells slots : Nat) (Q : State → Prop) (g : JFrame) (E text : String) : Prop :=
  ∀ T : State, T.heap = H → Stand p l e R s m args below meth c T locs cells slots → ∃ t, Steps p.tables e below ((T.setTop g).pushFrame (.throwNew E (some text) none)) t ∧ Q t
theorem vx_vm {pc : Nat} {ls : Array Slot} {rest : List Value} {Q : State → Prop} (hexec : p.tables.exec = Jvm.exec) (hl : l.stackTraces = false) {cls text : String} {names : List String} {nb : Nat} {A : Nat → Prop}
    (hcls : Bundle.fit cls = true) (hnames : ∀ n ∈ names, Bundle.fit n = true) (hsoe : (cls == "java/lang/StackOverflowError") = false) (hoom : (cls == "java/lang/OutOfMemoryError") = false)
    (hat : ∀ w ∈ vx_atM cls names, w.before args s = true) (hgood : ∀ w ∈ vx_atM cls names, vx_ot w = true)
    (hU : vx_Zq Bundle.tN "UNASSIGNED_STACK" Bundle.steD A s s.heap) (hN : vx_Zq Bundle.tN "SUPPRESSED_SENTINEL" Bundle.listD A s s.heap) (hS : va_S A s.heap H locs) (hsize : ls.size = c.maxLocals)
    (htext : (text == notModelled) = false) (hnb : (stringBytes (stringToUtf16 text)).size ≤ nb) (hnb1 : nb ≤ 1000)
    (hRframes : names.length + 4 < R.frames) (hRlocals : (rest.map fun v => v.category).sum + 10240 ≤ R.locals) (hshort : 13 * names.length + 55 ≤ 10240) (hRcells : cells + 3 ≤ R.cells) (hRslots : slots + (nb + 10) ≤ R.slots) (hlocks : meth.locks = false)
    (k : ∀ (H1 : Heap) (q9 : Addr) (ce : Cell), H.size ≤ H1.size → (∀ q : Nat, q < H.size → H1[q]? = H[q]?) → va_S A s.heap H1 locs → H1[q9]? = some ce → ce.vm = .none → s.vm.findClass cls = some ce.cls → vx_W p l e R s m args below meth c H1 locs (cells + 3) (slots + (nb + 10)) Q (F0 m pc ls rest) q9) :
    vx_Note p l e R s m args below meth c H locs cells slots Q (F0 m pc ls rest) cls text := by
  intro T hT X
  have htr : e.platform.stackTraces = false := (show e.platform.stackTraces = l.stackTraces by rw [X.admits.platform]).trans hl
  have Y := vx_rebase X (R' := { frames := R.frames, locals := R.locals, cells := 3, slots := nb + 10 }) (Nat.le_refl _) (Nat.le_refl _) hRcells hRslots
  have hhp : ((T.setVm s.vm).setFrames (.invoking m args :: below)).heap = H := hT
  have hW0 : s.WarmedH ((T.setVm s.vm).setFrames (.invoking m args :: below)).vm := State.WarmedH.refl s
  have hat' : ∀ w ∈ vx_atM cls names, w.before args ((T.setVm s.vm).setFrames (.invoking m args :: below)) = true := fun w hw => vx_ot_at hW0 rfl (hgood w hw) (hat w hw)
  have hU' : vx_Zq Bundle.tN "UNASSIGNED_STACK" Bundle.steD A ((T.setVm s.vm).setFrames (.invoking m args :: below)) ((T.setVm s.vm).setFrames (.invoking m args :: below)).heap := by rw [hhp]; exact vx_Zq.moved hW0.alike (hU.kept hS.2.1)
  have hN' : vx_Zq Bundle.tN "SUPPRESSED_SENTINEL" Bundle.listD A ((T.setVm s.vm).setFrames (.invoking m args :: below)) ((T.setVm s.vm).setFrames (.invoking m args :: below)).heap := by rw [hhp]; exact vx_Zq.moved hW0.alike (hN.kept hS.2.1)
  obtain ⟨S, q, ce, st, Z, hce, hcl', hv⟩ := vx_vmAt Y hexec htr (cls := cls) (names := names) (text := text) hcls hnames hsoe hoom (vx_own hat' (vx_isRefq hU'.1) (vx_isRefq hN'.1) hU'.2.word hN'.2.word) (fun x hx => nomatch hx) htext
    (by rw [Launch.admits_arrayLengthLimit X.admits]; omega) (by rw [Launch.admits_maxHeapBytes X.admits]; simp only [componentBytes]; omega)
    (g := F0 m pc ls rest) rfl hsize hRframes (by show 2 * 0 + (rest.map fun v => v.category).sum + 10240 ≤ R.locals; omega) hshort (by show 0 + 3 ≤ 3; omega) (by show 0 + (_ + 4 + 6) ≤ nb + 10; omega) hlocks
  obtain ⟨f1, f2⟩ := vx_frame Z.same
  have f1' : H.size ≤ S.heap.size := by rw [← hT]; exact f1
  have f2' : ∀ q : Nat, q < H.size → S.heap[q]? = H[q]? := fun q hq => by
    rw [← hT]
    exact f2 q (by rw [← hT] at hq; exact hq) (fun z hz => nomatch hz)
  have X5 := vx_back9 X Y Z
  have X6 : Stand p l e R s m args below meth c S locs (cells + 3) (slots + (nb + 10)) := { X5 with same := X5.same.mono (by omega) (by omega) }
  obtain ⟨t, a1, b1⟩ := k S.heap q ce f1' f2' ⟨Nat.le_trans hS.1 f1', fun q h1 h2 => (f2' q (Nat.lt_of_lt_of_le h1 hS.1)).trans (hS.2.1 q h1 h2), hS.2.2⟩ hce hv hcl' S rfl X6
  exact ⟨t, st t a1, b1⟩
/-- from the machine's note that NullPointerException is thrown here -/
def vx_NoteN (p : Program) (l : Launch) (e : Env) (R : Room) (s : State) (m : MethodId) (args : Array Value) (below : List Frame) (meth : Method) (c : Code) (H : Heap) (locs : List Loc) (cells slots : Nat) (Q : State → Prop) (g : JFrame) : Prop :=
  ∀ T : State, T.heap = H → Stand p l e R s m args below meth c T locs cells slots → ∃ t, Steps p.tables e below ((T.setTop g).pushFrame (.throwNew "java/lang/NullPointerException" none none)) t ∧ Q t
theorem vx_npe {pc : Nat} {ls : Array Slot} {rest : List Value} {Q : State → Prop} (hexec : p.tables.exec = Jvm.exec) (hl : l.stackTraces = false) {nb : Nat} {A : Nat → Prop}
    (hat : ∀ w ∈ vx_atN nb, w.before args s = true) (hgood : ∀ w ∈ vx_atN nb, vx_ot w = true)
    (hU : vx_Zq Bundle.tN "UNASSIGNED_STACK" Bundle.steD A s s.heap) (hN : vx_Zq Bundle.tN "SUPPRESSED_SENTINEL" Bundle.listD A s s.heap) (hS : va_S A s.heap H locs) (hsize : ls.size = c.maxLocals)
    (hRframes : 7 < R.frames) (hRlocals : (rest.map fun v => v.category).sum + 10240 ≤ R.locals) (hRcells : cells + 1 ≤ R.cells) (hRslots : slots + nb ≤ R.slots) (hlocks : meth.locks = false)
    (k : ∀ (H1 : Heap) (q9 : Addr) (ce : Cell), H.size ≤ H1.size → (∀ q : Nat, q < H.size → H1[q]? = H[q]?) → va_S A s.heap H1 locs → H1[q9]? = some ce → ce.vm = .none → s.vm.findClass "java/lang/NullPointerException" = some ce.cls → vx_W p l e R s m args below meth c H1 locs (cells + 1) (slots + nb) Q (F0 m pc ls rest) q9) :
    vx_NoteN p l e R s m args below meth c H locs cells slots Q (F0 m pc ls rest) := by
  intro T hT X
  have htr : e.platform.stackTraces = false := (show e.platform.stackTraces = l.stackTraces by rw [X.admits.platform]).trans hl
  have Y := vx_rebase X (R' := { frames := R.frames, locals := R.locals, cells := 1, slots := nb }) (Nat.le_refl _) (Nat.le_refl _) hRcells hRslots
  have hhp : ((T.setVm s.vm).setFrames (.invoking m args :: below)).heap = H := hT
  have hW0 : s.WarmedH ((T.setVm s.vm).setFrames (.invoking m args :: below)).vm := State.WarmedH.refl s
  have hat' : ∀ w ∈ vx_atN nb, w.before args ((T.setVm s.vm).setFrames (.invoking m args :: below)) = true := fun w hw => vx_ot_at hW0 rfl (hgood w hw) (hat w hw)
  have hU' : vx_Zq Bundle.tN "UNASSIGNED_STACK" Bundle.steD A ((T.setVm s.vm).setFrames (.invoking m args :: below)) ((T.setVm s.vm).setFrames (.invoking m args :: below)).heap := by rw [hhp]; exact vx_Zq.moved hW0.alike (hU.kept hS.2.1)
  have hN' : vx_Zq Bundle.tN "SUPPRESSED_SENTINEL" Bundle.listD A ((T.setVm s.vm).setFrames (.invoking m args :: below)) ((T.setVm s.vm).setFrames (.invoking m args :: below)).heap := by rw [hhp]; exact vx_Zq.moved hW0.alike (hN.kept hS.2.1)
  obtain ⟨S, q, ce, st, Z, hce, hcl', hv⟩ := vx_npeAt Y hexec htr (n := nb) (vx_own hat' (vx_isRefq hU'.1) (vx_isRefq hN'.1) hU'.2.word hN'.2.word) (fun x hx => nomatch hx)
    (g := F0 m pc ls rest) rfl hsize hRframes (by show 2 * 0 + (rest.map fun v => v.category).sum + 10240 ≤ R.locals; omega) (by show 0 + 1 ≤ 1; omega) (by show 0 + nb ≤ nb; omega) hlocks
  obtain ⟨f1, f2⟩ := vx_frame Z.same
  have f1' : H.size ≤ S.heap.size := by rw [← hT]; exact f1
  have f2' : ∀ q : Nat, q < H.size → S.heap[q]? = H[q]? := fun q hq => by
    rw [← hT]
    exact f2 q (by rw [← hT] at hq; exact hq) (fun z hz => nomatch hz)
  have X5 := vx_back9 X Y Z
  have X6 : Stand p l e R s m args below meth c S locs (cells + 1) (slots + nb) := { X5 with same := X5.same.mono (by omega) (by omega) }
  obtain ⟨t, a1, b1⟩ := k S.heap q ce f1' f2' ⟨Nat.le_trans hS.1 f1', fun q h1 h2 => (f2' q (Nat.lt_of_lt_of_le h1 hS.1)).trans (hS.2.1 q h1 h2), hS.2.2⟩ hce hv hcl' S rfl X6
  exact ⟨t, st t a1, b1⟩
variable {Q : State → Prop} {cc : ByteArray} {pc : Nat} {ls : Array Slot} {rest : List Value}
theorem vx_idivZ (hexec : p.tables.exec = Jvm.exec) (hb : c.code = cc) {a b : Int32} (h0 : b = 0) (d : decode cc pc = .ok (.idiv, 1)) (k : vx_Note p l e R s m args below meth c H locs cells slots Q (F0 m pc ls rest) "java/lang/ArithmeticException" "/ by zero") :
    W p l e R s m args below meth c H locs cells slots Q (F0 m pc ls (.int b :: .int a :: rest)) := by
  intro T hT X
  obtain ⟨t, st, q⟩ := k T hT X
  exact ⟨t, X.idivZero hexec (g := F0 m pc ls (.int b :: .int a :: rest)) rfl (a := a) (rest := rest) (by rw [h0]) (by rw [hb]; exact d) t st, q⟩
theorem vx_iremZ (hexec : p.tables.exec = Jvm.exec) (hb : c.code = cc) {a b : Int32} (h0 : b = 0) (d : decode cc pc = .ok (.irem, 1)) (k : vx_Note p l e R s m args below meth c H locs cells slots Q (F0 m pc ls rest) "java/lang/ArithmeticException" "/ by zero") :
    W p l e R s m args below meth c H locs cells slots Q (F0 m pc ls (.int b :: .int a :: rest)) := by
  intro T hT X
  obtain ⟨t, st, q⟩ := k T hT X
  exact ⟨t, X.iremZero hexec (g := F0 m pc ls (.int b :: .int a :: rest)) rfl (a := a) (rest := rest) (by rw [h0]) (by rw [hb]; exact d) t st, q⟩
theorem vx_ldivZ (hexec : p.tables.exec = Jvm.exec) (hb : c.code = cc) {a b : Int64} (h0 : b = 0) (d : decode cc pc = .ok (.ldiv, 1)) (k : vx_Note p l e R s m args below meth c H locs cells slots Q (F0 m pc ls rest) "java/lang/ArithmeticException" "/ by zero") :
    W p l e R s m args below meth c H locs cells slots Q (F0 m pc ls (.long b :: .long a :: rest)) := by
  intro T hT X
  obtain ⟨t, st, q⟩ := k T hT X
  exact ⟨t, X.ldivZero hexec (g := F0 m pc ls (.long b :: .long a :: rest)) rfl (a := a) (rest := rest) (by rw [h0]) (by rw [hb]; exact d) t st, q⟩
theorem vx_lremZ (hexec : p.tables.exec = Jvm.exec) (hb : c.code = cc) {a b : Int64} (h0 : b = 0) (d : decode cc pc = .ok (.lrem, 1)) (k : vx_Note p l e R s m args below meth c H locs cells slots Q (F0 m pc ls rest) "java/lang/ArithmeticException" "/ by zero") :
    W p l e R s m args below meth c H locs cells slots Q (F0 m pc ls (.long b :: .long a :: rest)) := by
  intro T hT X
  obtain ⟨t, st, q⟩ := k T hT X
  exact ⟨t, X.lremZero hexec (g := F0 m pc ls (.long b :: .long a :: rest)) rfl (a := a) (rest := rest) (by rw [h0]) (by rw [hb]; exact d) t st, q⟩
theorem vx_ialdZ {D : va_G} {cl : List vw_C} {ws : va_W} {tys : List (ClassId × FieldType)} {a : Nat} (hexec : p.tables.exec = Jvm.exec) (hb : c.code = cc) (hK : va_K D cl tys s) (hP : va_P D cl ws H) (q0 t0 : Nat) {cA : ClassId} {n : Nat} {f : Nat → Int32} (ha : ws[q0]? = some (a, .inl (cA, n, .inl f))) (ht : tys[t0]? = some (cA, .int)) {i : Int32} (hout : ¬ vp_in i n) (hdg : decode cc pc = .ok (.iaload, 1))
    (k : ∀ tx : String, tx = (toString "Index " ++ toString i ++ toString " out of bounds for length " ++ toString n : String) → vx_Note p l e R s m args below meth c H locs cells slots Q (F0 m pc ls rest) "java/lang/ArrayIndexOutOfBoundsException" tx) : W p l e R s m args below meth c H locs cells slots Q (F0 m pc ls (.int i :: .ref a :: rest)) := by
  intro T hT X
  obtain ⟨t, st, q⟩ := k _ rfl T hT X
  refine ⟨t, ?_, q⟩
  have h1 := X.ialoadOut hexec (by rw [hT]; exact hP q0 _ ha) ((hK.2 t0 _ ht).1 n (fun j => .int (f j))) (j := i) (by show (i < 0 ∨ (arrV _ _ _).slots.size ≤ _); rw [arrV_size]; exact Classical.byContradiction hout) (g := F0 m pc ls (.int i :: .ref a :: rest)) rfl (rest := rest) rfl (by rw [hb]; exact hdg) t
  simp only [arrV_size] at h1
  exact h1 st
theorem vx_iastZ {D : va_G} {cl : List vw_C} {ws : va_W} {tys : List (ClassId × FieldType)} {a : Nat} (hexec : p.tables.exec = Jvm.exec) (hb : c.code = cc) (hK : va_K D cl tys s) (hP : va_P D cl ws H) (q0 t0 : Nat) {cA : ClassId} {n : Nat} {f : Nat → Int32} (ha : ws[q0]? = some (a, .inl (cA, n, .inl f))) (ht : tys[t0]? = some (cA, .int)) {i : Int32} {x : Int32} (hout : ¬ vp_in i n) (hdg : decode cc pc = .ok (.iastore, 1))
    (k : ∀ tx : String, tx = (toString "Index " ++ toString i ++ toString " out of bounds for length " ++ toString n : String) → vx_Note p l e R s m args below meth c H locs cells slots Q (F0 m pc ls rest) "java/lang/ArrayIndexOutOfBoundsException" tx) : W p l e R s m args below meth c H locs cells slots Q (F0 m pc ls (.int x :: .int i :: .ref a :: rest)) := by
  intro T hT X
  obtain ⟨t, st, q⟩ := k _ rfl T hT X
  refine ⟨t, ?_, q⟩
  have h1 := X.iastoreOut hexec (by rw [hT]; exact hP q0 _ ha) ((hK.2 t0 _ ht).1 n (fun j => .int (f j))) (j := i) (by show (i < 0 ∨ (arrV _ _ _).slots.size ≤ _); rw [arrV_size]; exact Classical.byContradiction hout) (g := F0 m pc ls (.int x :: .int i :: .ref a :: rest)) rfl (rest := rest) rfl (by rw [hb]; exact hdg) t
  simp only [arrV_size] at h1
  exact h1 st
theorem vx_baldZ {D : va_G} {cl : List vw_C} {ws : va_W} {tys : List (ClassId × FieldType)} {a : Nat} (hexec : p.tables.exec = Jvm.exec) (hb : c.code = cc) (hK : va_K D cl tys s) (hP : va_P D cl ws H) (q0 t0 : Nat) {cA : ClassId} {n : Nat} {f : Nat → Int32} (ha : ws[q0]? = some (a, .inl (cA, n, .inl f))) (ht : tys[t0]? = some (cA, .byte)) {i : Int32} (hout : ¬ vp_in i n) (hdg : decode cc pc = .ok (.baload, 1))
    (k : ∀ tx : String, tx = (toString "Index " ++ toString i ++ toString " out of bounds for length " ++ toString n : String) → vx_Note p l e R s m args below meth c H locs cells slots Q (F0 m pc ls rest) "java/lang/ArrayIndexOutOfBoundsException" tx) : W p l e R s m args below meth c H locs cells slots Q (F0 m pc ls (.int i :: .ref a :: rest)) := by
  intro T hT X
  obtain ⟨t, st, q⟩ := k _ rfl T hT X
  refine ⟨t, ?_, q⟩
  have h1 := X.baloadOut hexec (by rw [hT]; exact hP q0 _ ha) ((hK.2 t0 _ ht).1 n (fun j => .int (f j))) (j := i) (by show (i < 0 ∨ (arrV _ _ _).slots.size ≤ _); rw [arrV_size]; exact Classical.byContradiction hout) (g := F0 m pc ls (.int i :: .ref a :: rest)) rfl (rest := rest) rfl (by rw [hb]; exact hdg) t
  simp only [arrV_size] at h1
  exact h1 st
theorem vx_bastZ {D : va_G} {cl : List vw_C} {ws : va_W} {tys : List (ClassId × FieldType)} {a : Nat} (hexec : p.tables.exec = Jvm.exec) (hb : c.code = cc) (hK : va_K D cl tys s) (hP : va_P D cl ws H) (q0 t0 : Nat) {cA : ClassId} {n : Nat} {f : Nat → Int32} (ha : ws[q0]? = some (a, .inl (cA, n, .inl f))) (ht : tys[t0]? = some (cA, .byte)) {i : Int32} {x : Int32} (hout : ¬ vp_in i n) (hdg : decode cc pc = .ok (.bastore, 1))
    (k : ∀ tx : String, tx = (toString "Index " ++ toString i ++ toString " out of bounds for length " ++ toString n : String) → vx_Note p l e R s m args below meth c H locs cells slots Q (F0 m pc ls rest) "java/lang/ArrayIndexOutOfBoundsException" tx) : W p l e R s m args below meth c H locs cells slots Q (F0 m pc ls (.int x :: .int i :: .ref a :: rest)) := by
  intro T hT X
  obtain ⟨t, st, q⟩ := k _ rfl T hT X
  refine ⟨t, ?_, q⟩
  have h1 := X.bastoreOut hexec (by rw [hT]; exact hP q0 _ ha) ((hK.2 t0 _ ht).1 n (fun j => .int (f j))) (j := i) (by show (i < 0 ∨ (arrV _ _ _).slots.size ≤ _); rw [arrV_size]; exact Classical.byContradiction hout) (g := F0 m pc ls (.int x :: .int i :: .ref a :: rest)) rfl (rest := rest) rfl (by rw [hb]; exact hdg) t
  simp only [arrV_size] at h1
  exact h1 st
theorem vx_zaldZ {D : va_G} {cl : List vw_C} {ws : va_W} {tys : List (ClassId × FieldType)} {a : Nat} (hexec : p.tables.exec = Jvm.exec) (hb : c.code = cc) (hK : va_K D cl tys s) (hP : va_P D cl ws H) (q0 t0 : Nat) {cA : ClassId} {n : Nat} {f : Nat → Int32} (ha : ws[q0]? = some (a, .inl (cA, n, .inl f))) (ht : tys[t0]? = some (cA, .boolean)) {i : Int32} (hout : ¬ vp_in i n) (hdg : decode cc pc = .ok (.baload, 1))
    (k : ∀ tx : String, tx = (toString "Index " ++ toString i ++ toString " out of bounds for length " ++ toString n : String) → vx_Note p l e R s m args below meth c H locs cells slots Q (F0 m pc ls rest) "java/lang/ArrayIndexOutOfBoundsException" tx) : W p l e R s m args below meth c H locs cells slots Q (F0 m pc ls (.int i :: .ref a :: rest)) := by
  intro T hT X
  obtain ⟨t, st, q⟩ := k _ rfl T hT X
  refine ⟨t, ?_, q⟩
  have h1 := X.baloadOut hexec (by rw [hT]; exact hP q0 _ ha) ((hK.2 t0 _ ht).1 n (fun j => .int (f j))) (j := i) (by show (i < 0 ∨ (arrV _ _ _).slots.size ≤ _); rw [arrV_size]; exact Classical.byContradiction hout) (g := F0 m pc ls (.int i :: .ref a :: rest)) rfl (rest := rest) rfl (by rw [hb]; exact hdg) t
  simp only [arrV_size] at h1
  exact h1 st
theorem vx_zastZ {D : va_G} {cl : List vw_C} {ws : va_W} {tys : List (ClassId × FieldType)} {a : Nat} (hexec : p.tables.exec = Jvm.exec) (hb : c.code = cc) (hK : va_K D cl tys s) (hP : va_P D cl ws H) (q0 t0 : Nat) {cA : ClassId} {n : Nat} {f : Nat → Int32} (ha : ws[q0]? = some (a, .inl (cA, n, .inl f))) (ht : tys[t0]? = some (cA, .boolean)) {i : Int32} {x : Int32} (hout : ¬ vp_in i n) (hdg : decode cc pc = .ok (.bastore, 1))
    (k : ∀ tx : String, tx = (toString "Index " ++ toString i ++ toString " out of bounds for length " ++ toString n : String) → vx_Note p l e R s m args below meth c H locs cells slots Q (F0 m pc ls rest) "java/lang/ArrayIndexOutOfBoundsException" tx) : W p l e R s m args below meth c H locs cells slots Q (F0 m pc ls (.int x :: .int i :: .ref a :: rest)) := by
  intro T hT X
  obtain ⟨t, st, q⟩ := k _ rfl T hT X
  refine ⟨t, ?_, q⟩
  have h1 := X.bastoreOut hexec (by rw [hT]; exact hP q0 _ ha) ((hK.2 t0 _ ht).1 n (fun j => .int (f j))) (j := i) (by show (i < 0 ∨ (arrV _ _ _).slots.size ≤ _); rw [arrV_size]; exact Classical.byContradiction hout) (g := F0 m pc ls (.int x :: .int i :: .ref a :: rest)) rfl (rest := rest) rfl (by rw [hb]; exact hdg) t
  simp only [arrV_size] at h1
  exact h1 st
theorem vx_caldZ {D : va_G} {cl : List vw_C} {ws : va_W} {tys : List (ClassId × FieldType)} {a : Nat} (hexec : p.tables.exec = Jvm.exec) (hb : c.code = cc) (hK : va_K D cl tys s) (hP : va_P D cl ws H) (q0 t0 : Nat) {cA : ClassId} {n : Nat} {f : Nat → Int32} (ha : ws[q0]? = some (a, .inl (cA, n, .inl f))) (ht : tys[t0]? = some (cA, .char)) {i : Int32} (hout : ¬ vp_in i n) (hdg : decode cc pc = .ok (.caload, 1))
    (k : ∀ tx : String, tx = (toString "Index " ++ toString i ++ toString " out of bounds for length " ++ toString n : String) → vx_Note p l e R s m args below meth c H locs cells slots Q (F0 m pc ls rest) "java/lang/ArrayIndexOutOfBoundsException" tx) : W p l e R s m args below meth c H locs cells slots Q (F0 m pc ls (.int i :: .ref a :: rest)) := by
  intro T hT X
  obtain ⟨t, st, q⟩ := k _ rfl T hT X
  refine ⟨t, ?_, q⟩
  have h1 := X.caloadOut hexec (by rw [hT]; exact hP q0 _ ha) ((hK.2 t0 _ ht).1 n (fun j => .int (f j))) (j := i) (by show (i < 0 ∨ (arrV _ _ _).slots.size ≤ _); rw [arrV_size]; exact Classical.byContradiction hout) (g := F0 m pc ls (.int i :: .ref a :: rest)) rfl (rest := rest) rfl (by rw [hb]; exact hdg) t
  simp only [arrV_size] at h1
  exact h1 st
theorem vx_castZ {D : va_G} {cl : List vw_C} {ws : va_W} {tys : List (ClassId × FieldType)} {a : Nat} (hexec : p.tables.exec = Jvm.exec) (hb : c.code = cc) (hK : va_K D cl tys s) (hP : va_P D cl ws H) (q0 t0 : Nat) {cA : ClassId} {n : Nat} {f : Nat → Int32} (ha : ws[q0]? = some (a, .inl (cA, n, .inl f))) (ht : tys[t0]? = some (cA, .char)) {i : Int32} {x : Int32} (hout : ¬ vp_in i n) (hdg : decode cc pc = .ok (.castore, 1))
    (k : ∀ tx : String, tx = (toString "Index " ++ toString i ++ toString " out of bounds for length " ++ toString n : String) → vx_Note p l e R s m args below meth c H locs cells slots Q (F0 m pc ls rest) "java/lang/ArrayIndexOutOfBoundsException" tx) : W p l e R s m args below meth c H locs cells slots Q (F0 m pc ls (.int x :: .int i :: .ref a :: rest)) := by
  intro T hT X
  obtain ⟨t, st, q⟩ := k _ rfl T hT X
  refine ⟨t, ?_, q⟩
  have h1 := X.castoreOut hexec (by rw [hT]; exact hP q0 _ ha) ((hK.2 t0 _ ht).1 n (fun j => .int (f j))) (j := i) (by show (i < 0 ∨ (arrV _ _ _).slots.size ≤ _); rw [arrV_size]; exact Classical.byContradiction hout) (g := F0 m pc ls (.int x :: .int i :: .ref a :: rest)) rfl (rest := rest) rfl (by rw [hb]; exact hdg) t
  simp only [arrV_size] at h1
  exact h1 st
theorem vx_saldZ {D : va_G} {cl : List vw_C} {ws : va_W} {tys : List (ClassId × FieldType)} {a : Nat} (hexec : p.tables.exec = Jvm.exec) (hb : c.code = cc) (hK : va_K D cl tys s) (hP : va_P D cl ws H) (q0 t0 : Nat) {cA : ClassId} {n : Nat} {f : Nat → Int32} (ha : ws[q0]? = some (a, .inl (cA, n, .inl f))) (ht : tys[t0]? = some (cA, .short)) {i : Int32} (hout : ¬ vp_in i n) (hdg : decode cc pc = .ok (.saload, 1))
    (k : ∀ tx : String, tx = (toString "Index " ++ toString i ++ toString " out of bounds for length " ++ toString n : String) → vx_Note p l e R s m args below meth c H locs cells slots Q (F0 m pc ls rest) "java/lang/ArrayIndexOutOfBoundsException" tx) : W p l e R s m args below meth c H locs cells slots Q (F0 m pc ls (.int i :: .ref a :: rest)) := by
  intro T hT X
  obtain ⟨t, st, q⟩ := k _ rfl T hT X
  refine ⟨t, ?_, q⟩
  have h1 := X.saloadOut hexec (by rw [hT]; exact hP q0 _ ha) ((hK.2 t0 _ ht).1 n (fun j => .int (f j))) (j := i) (by show (i < 0 ∨ (arrV _ _ _).slots.size ≤ _); rw [arrV_size]; exact Classical.byContradiction hout) (g := F0 m pc ls (.int i :: .ref a :: rest)) rfl (rest := rest) rfl (by rw [hb]; exact hdg) t
  simp only [arrV_size] at h1
  exact h1 st
theorem vx_sastZ {D : va_G} {cl : List vw_C} {ws : va_W} {tys : List (ClassId × FieldType)} {a : Nat} (hexec : p.tables.exec = Jvm.exec) (hb : c.code = cc) (hK : va_K D cl tys s) (hP : va_P D cl ws H) (q0 t0 : Nat) {cA : ClassId} {n : Nat} {f : Nat → Int32} (ha : ws[q0]? = some (a, .inl (cA, n, .inl f))) (ht : tys[t0]? = some (cA, .short)) {i : Int32} {x : Int32} (hout : ¬ vp_in i n) (hdg : decode cc pc = .ok (.sastore, 1))
    (k : ∀ tx : String, tx = (toString "Index " ++ toString i ++ toString " out of bounds for length " ++ toString n : String) → vx_Note p l e R s m args below meth c H locs cells slots Q (F0 m pc ls rest) "java/lang/ArrayIndexOutOfBoundsException" tx) : W p l e R s m args below meth c H locs cells slots Q (F0 m pc ls (.int x :: .int i :: .ref a :: rest)) := by
  intro T hT X
  obtain ⟨t, st, q⟩ := k _ rfl T hT X
  refine ⟨t, ?_, q⟩
  have h1 := X.sastoreOut hexec (by rw [hT]; exact hP q0 _ ha) ((hK.2 t0 _ ht).1 n (fun j => .int (f j))) (j := i) (by show (i < 0 ∨ (arrV _ _ _).slots.size ≤ _); rw [arrV_size]; exact Classical.byContradiction hout) (g := F0 m pc ls (.int x :: .int i :: .ref a :: rest)) rfl (rest := rest) rfl (by rw [hb]; exact hdg) t
  simp only [arrV_size] at h1
  exact h1 st
theorem vx_laldZ {D : va_G} {cl : List vw_C} {ws : va_W} {tys : List (ClassId × FieldType)} {a : Nat} (hexec : p.tables.exec = Jvm.exec) (hb : c.code = cc) (hK : va_K D cl tys s) (hP : va_P D cl ws H) (q0 t0 : Nat) {cA : ClassId} {n : Nat} {f : Nat → Int64} (ha : ws[q0]? = some (a, .inl (cA, n, .inr (.inl f)))) (ht : tys[t0]? = some (cA, .long)) {i : Int32} (hout : ¬ vp_in i n) (hdg : decode cc pc = .ok (.laload, 1))
    (k : ∀ tx : String, tx = (toString "Index " ++ toString i ++ toString " out of bounds for length " ++ toString n : String) → vx_Note p l e R s m args below meth c H locs cells slots Q (F0 m pc ls rest) "java/lang/ArrayIndexOutOfBoundsException" tx) : W p l e R s m args below meth c H locs cells slots Q (F0 m pc ls (.int i :: .ref a :: rest)) := by
  intro T hT X
  obtain ⟨t, st, q⟩ := k _ rfl T hT X
  refine ⟨t, ?_, q⟩
  have h1 := X.laloadOut hexec (by rw [hT]; exact hP q0 _ ha) ((hK.2 t0 _ ht).1 n (fun j => .long (f j))) (j := i) (by show (i < 0 ∨ (arrV _ _ _).slots.size ≤ _); rw [arrV_size]; exact Classical.byContradiction hout) (g := F0 m pc ls (.int i :: .ref a :: rest)) rfl (rest := rest) rfl (by rw [hb]; exact hdg) t
  simp only [arrV_size] at h1
  exact h1 st
theorem vx_lastZ {D : va_G} {cl : List vw_C} {ws : va_W} {tys : List (ClassId × FieldType)} {a : Nat} (hexec : p.tables.exec = Jvm.exec) (hb : c.code = cc) (hK : va_K D cl tys s) (hP : va_P D cl ws H) (q0 t0 : Nat) {cA : ClassId} {n : Nat} {f : Nat → Int64} (ha : ws[q0]? = some (a, .inl (cA, n, .inr (.inl f)))) (ht : tys[t0]? = some (cA, .long)) {i : Int32} {x : Int64} (hout : ¬ vp_in i n) (hdg : decode cc pc = .ok (.lastore, 1))
    (k : ∀ tx : String, tx = (toString "Index " ++ toString i ++ toString " out of bounds for length " ++ toString n : String) → vx_Note p l e R s m args below meth c H locs cells slots Q (F0 m pc ls rest) "java/lang/ArrayIndexOutOfBoundsException" tx) : W p l e R s m args below meth c H locs cells slots Q (F0 m pc ls (.long x :: .int i :: .ref a :: rest)) := by
  intro T hT X
  obtain ⟨t, st, q⟩ := k _ rfl T hT X
  refine ⟨t, ?_, q⟩
  have h1 := X.lastoreOut hexec (by rw [hT]; exact hP q0 _ ha) ((hK.2 t0 _ ht).1 n (fun j => .long (f j))) (j := i) (by show (i < 0 ∨ (arrV _ _ _).slots.size ≤ _); rw [arrV_size]; exact Classical.byContradiction hout) (g := F0 m pc ls (.long x :: .int i :: .ref a :: rest)) rfl (rest := rest) rfl (by rw [hb]; exact hdg) t
  simp only [arrV_size] at h1
  exact h1 st
theorem vx_faldZ {D : va_G} {cl : List vw_C} {ws : va_W} {tys : List (ClassId × FieldType)} {a : Nat} (hexec : p.tables.exec = Jvm.exec) (hb : c.code = cc) (hK : va_K D cl tys s) (hP : va_P D cl ws H) (q0 t0 : Nat) {cA : ClassId} {n : Nat} {f : Nat → UInt32} (ha : ws[q0]? = some (a, .inl (cA, n, .inr (.inr (.inl f))))) (ht : tys[t0]? = some (cA, .float)) {i : Int32} (hout : ¬ vp_in i n) (hdg : decode cc pc = .ok (.faload, 1))
    (k : ∀ tx : String, tx = (toString "Index " ++ toString i ++ toString " out of bounds for length " ++ toString n : String) → vx_Note p l e R s m args below meth c H locs cells slots Q (F0 m pc ls rest) "java/lang/ArrayIndexOutOfBoundsException" tx) : W p l e R s m args below meth c H locs cells slots Q (F0 m pc ls (.int i :: .ref a :: rest)) := by
  intro T hT X
  obtain ⟨t, st, q⟩ := k _ rfl T hT X
  refine ⟨t, ?_, q⟩
  have h1 := X.faloadOut hexec (by rw [hT]; exact hP q0 _ ha) ((hK.2 t0 _ ht).1 n (fun j => .float (f j))) (j := i) (by show (i < 0 ∨ (arrV _ _ _).slots.size ≤ _); rw [arrV_size]; exact Classical.byContradiction hout) (g := F0 m pc ls (.int i :: .ref a :: rest)) rfl (rest := rest) rfl (by rw [hb]; exact hdg) t
  simp only [arrV_size] at h1
  exact h1 st
theorem vx_fastZ {D : va_G} {cl : List vw_C} {ws : va_W} {tys : List (ClassId × FieldType)} {a : Nat} (hexec : p.tables.exec = Jvm.exec) (hb : c.code = cc) (hK : va_K D cl tys s) (hP : va_P D cl ws H) (q0 t0 : Nat) {cA : ClassId} {n : Nat} {f : Nat → UInt32} (ha : ws[q0]? = some (a, .inl (cA, n, .inr (.inr (.inl f))))) (ht : tys[t0]? = some (cA, .float)) {i : Int32} {x : UInt32} (hout : ¬ vp_in i n) (hdg : decode cc pc = .ok (.fastore, 1))
    (k : ∀ tx : String, tx = (toString "Index " ++ toString i ++ toString " out of bounds for length " ++ toString n : String) → vx_Note p l e R s m args below meth c H locs cells slots Q (F0 m pc ls rest) "java/lang/ArrayIndexOutOfBoundsException" tx) : W p l e R s m args below meth c H locs cells slots Q (F0 m pc ls (.float x :: .int i :: .ref a :: rest)) := by
  intro T hT X
  obtain ⟨t, st, q⟩ := k _ rfl T hT X
  refine ⟨t, ?_, q⟩
  have h1 := X.fastoreOut hexec (by rw [hT]; exact hP q0 _ ha) ((hK.2 t0 _ ht).1 n (fun j => .float (f j))) (j := i) (by show (i < 0 ∨ (arrV _ _ _).slots.size ≤ _); rw [arrV_size]; exact Classical.byContradiction hout) (g := F0 m pc ls (.float x :: .int i :: .ref a :: rest)) rfl (rest := rest) rfl (by rw [hb]; exact hdg) t
  simp only [arrV_size] at h1
  exact h1 st
theorem vx_daldZ {D : va_G} {cl : List vw_C} {ws : va_W} {tys : List (ClassId × FieldType)} {a : Nat} (hexec : p.tables.exec = Jvm.exec) (hb : c.code = cc) (hK : va_K D cl tys s) (hP : va_P D cl ws H) (q0 t0 : Nat) {cA : ClassId} {n : Nat} {f : Nat → UInt64} (ha : ws[q0]? = some (a, .inl (cA, n, .inr (.inr (.inr (.inl f)))))) (ht : tys[t0]? = some (cA, .double)) {i : Int32} (hout : ¬ vp_in i n) (hdg : decode cc pc = .ok (.daload, 1))
    (k : ∀ tx : String, tx = (toString "Index " ++ toString i ++ toString " out of bounds for length " ++ toString n : String) → vx_Note p l e R s m args below meth c H locs cells slots Q (F0 m pc ls rest) "java/lang/ArrayIndexOutOfBoundsException" tx) : W p l e R s m args below meth c H locs cells slots Q (F0 m pc ls (.int i :: .ref a :: rest)) := by
  intro T hT X
  obtain ⟨t, st, q⟩ := k _ rfl T hT X
  refine ⟨t, ?_, q⟩
  have h1 := X.daloadOut hexec (by rw [hT]; exact hP q0 _ ha) ((hK.2 t0 _ ht).1 n (fun j => .double (f j))) (j := i) (by show (i < 0 ∨ (arrV _ _ _).slots.size ≤ _); rw [arrV_size]; exact Classical.byContradiction hout) (g := F0 m pc ls (.int i :: .ref a :: rest)) rfl (rest := rest) rfl (by rw [hb]; exact hdg) t
  simp only [arrV_size] at h1
  exact h1 st
theorem vx_dastZ {D : va_G} {cl : List vw_C} {ws : va_W} {tys : List (ClassId × FieldType)} {a : Nat} (hexec : p.tables.exec = Jvm.exec) (hb : c.code = cc) (hK : va_K D cl tys s) (hP : va_P D cl ws H) (q0 t0 : Nat) {cA : ClassId} {n : Nat} {f : Nat → UInt64} (ha : ws[q0]? = some (a, .inl (cA, n, .inr (.inr (.inr (.inl f)))))) (ht : tys[t0]? = some (cA, .double)) {i : Int32} {x : UInt64} (hout : ¬ vp_in i n) (hdg : decode cc pc = .ok (.dastore, 1))
    (k : ∀ tx : String, tx = (toString "Index " ++ toString i ++ toString " out of bounds for length " ++ toString n : String) → vx_Note p l e R s m args below meth c H locs cells slots Q (F0 m pc ls rest) "java/lang/ArrayIndexOutOfBoundsException" tx) : W p l e R s m args below meth c H locs cells slots Q (F0 m pc ls (.double x :: .int i :: .ref a :: rest)) := by
  intro T hT X
  obtain ⟨t, st, q⟩ := k _ rfl T hT X
  refine ⟨t, ?_, q⟩
  have h1 := X.dastoreOut hexec (by rw [hT]; exact hP q0 _ ha) ((hK.2 t0 _ ht).1 n (fun j => .double (f j))) (j := i) (by show (i < 0 ∨ (arrV _ _ _).slots.size ≤ _); rw [arrV_size]; exact Classical.byContradiction hout) (g := F0 m pc ls (.double x :: .int i :: .ref a :: rest)) rfl (rest := rest) rfl (by rw [hb]; exact hdg) t
  simp only [arrV_size] at h1
  exact h1 st
theorem vx_arraylengthN (hexec : p.tables.exec = Jvm.exec) (hb : c.code = cc) (hdg : decode cc pc = .ok (.arraylength, 1)) (k : vx_NoteN p l e R s m args below meth c H locs cells slots Q (F0 m pc ls rest)) : W p l e R s m args below meth c H locs cells slots Q (F0 m pc ls (.null :: rest)) := by
  intro T hT X
  obtain ⟨t, st, q⟩ := k T hT X
  exact ⟨t, X.arraylengthNull hexec (g := F0 m pc ls (.null :: rest)) rfl (rest := rest) rfl (by rw [hb]; exact hdg) t st, q⟩
theorem vx_ialoadN (hexec : p.tables.exec = Jvm.exec) (hb : c.code = cc) {i : Int32} (hdg : decode cc pc = .ok (.iaload, 1)) (k : vx_NoteN p l e R s m args below meth c H locs cells slots Q (F0 m pc ls rest)) : W p l e R s m args below meth c H locs cells slots Q (F0 m pc ls (.int i :: .null :: rest)) := by
  intro T hT X
  obtain ⟨t, st, q⟩ := k T hT X
  exact ⟨t, X.ialoadNull hexec (g := F0 m pc ls (.int i :: .null :: rest)) rfl (rest := rest) rfl (by rw [hb]; exact hdg) t st, q⟩
theorem vx_laloadN (hexec : p.tables.exec = Jvm.exec) (hb : c.code = cc) {i : Int32} (hdg : decode cc pc = .ok (.laload, 1)) (k : vx_NoteN p l e R s m args below meth c H locs cells slots Q (F0 m pc ls rest)) : W p l e R s m args below meth c H locs cells slots Q (F0 m pc ls (.int i :: .null :: rest)) := by
  intro T hT X
  obtain ⟨t, st, q⟩ := k T hT X
  exact ⟨t, X.laloadNull hexec (g := F0 m pc ls (.int i :: .null :: rest)) rfl (rest := rest) rfl (by rw [hb]; exact hdg) t st, q⟩
theorem vx_faloadN (hexec : p.tables.exec = Jvm.exec) (hb : c.code = cc) {i : Int32} (hdg : decode cc pc = .ok (.faload, 1)) (k : vx_NoteN p l e R s m args below meth c H locs cells slots Q (F0 m pc ls rest)) : W p l e R s m args below meth c H locs cells slots Q (F0 m pc ls (.int i :: .null :: rest)) := by
  intro T hT X
  obtain ⟨t, st, q⟩ := k T hT X
  exact ⟨t, X.faloadNull hexec (g := F0 m pc ls (.int i :: .null :: rest)) rfl (rest := rest) rfl (by rw [hb]; exact hdg) t st, q⟩
theorem vx_daloadN (hexec : p.tables.exec = Jvm.exec) (hb : c.code = cc) {i : Int32} (hdg : decode cc pc = .ok (.daload, 1)) (k : vx_NoteN p l e R s m args below meth c H locs cells slots Q (F0 m pc ls rest)) : W p l e R s m args below meth c H locs cells slots Q (F0 m pc ls (.int i :: .null :: rest)) := by
  intro T hT X
  obtain ⟨t, st, q⟩ := k T hT X
  exact ⟨t, X.daloadNull hexec (g := F0 m pc ls (.int i :: .null :: rest)) rfl (rest := rest) rfl (by rw [hb]; exact hdg) t st, q⟩
theorem vx_aaloadN (hexec : p.tables.exec = Jvm.exec) (hb : c.code = cc) {i : Int32} (hdg : decode cc pc = .ok (.aaload, 1)) (k : vx_NoteN p l e R s m args below meth c H locs cells slots Q (F0 m pc ls rest)) : W p l e R s m args below meth c H locs cells slots Q (F0 m pc ls (.int i :: .null :: rest)) := by
  intro T hT X
  obtain ⟨t, st, q⟩ := k T hT X
  exact ⟨t, X.aaloadNull hexec (g := F0 m pc ls (.int i :: .null :: rest)) rfl (rest := rest) rfl (by rw [hb]; exact hdg) t st, q⟩
theorem vx_baloadN (hexec : p.tables.exec = Jvm.exec) (hb : c.code = cc) {i : Int32} (hdg : decode cc pc = .ok (.baload, 1)) (k : vx_NoteN p l e R s m args below meth c H locs cells slots Q (F0 m pc ls rest)) : W p l e R s m args below meth c H locs cells slots Q (F0 m pc ls (.int i :: .null :: rest)) := by
  intro T hT X
  obtain ⟨t, st, q⟩ := k T hT X
  exact ⟨t, X.baloadNull hexec (g := F0 m pc ls (.int i :: .null :: rest)) rfl (rest := rest) rfl (by rw [hb]; exact hdg) t st, q⟩
theorem vx_caloadN (hexec : p.tables.exec = Jvm.exec) (hb : c.code = cc) {i : Int32} (hdg : decode cc pc = .ok (.caload, 1)) (k : vx_NoteN p l e R s m args below meth c H locs cells slots Q (F0 m pc ls rest)) : W p l e R s m args below meth c H locs cells slots Q (F0 m pc ls (.int i :: .null :: rest)) := by
  intro T hT X
  obtain ⟨t, st, q⟩ := k T hT X
  exact ⟨t, X.caloadNull hexec (g := F0 m pc ls (.int i :: .null :: rest)) rfl (rest := rest) rfl (by rw [hb]; exact hdg) t st, q⟩
theorem vx_saloadN (hexec : p.tables.exec = Jvm.exec) (hb : c.code = cc) {i : Int32} (hdg : decode cc pc = .ok (.saload, 1)) (k : vx_NoteN p l e R s m args below meth c H locs cells slots Q (F0 m pc ls rest)) : W p l e R s m args below meth c H locs cells slots Q (F0 m pc ls (.int i :: .null :: rest)) := by
  intro T hT X
  obtain ⟨t, st, q⟩ := k T hT X
  exact ⟨t, X.saloadNull hexec (g := F0 m pc ls (.int i :: .null :: rest)) rfl (rest := rest) rfl (by rw [hb]; exact hdg) t st, q⟩
theorem vx_iastoreN (hexec : p.tables.exec = Jvm.exec) (hb : c.code = cc) {x : Int32} {i : Int32} (hdg : decode cc pc = .ok (.iastore, 1)) (k : vx_NoteN p l e R s m args below meth c H locs cells slots Q (F0 m pc ls rest)) : W p l e R s m args below meth c H locs cells slots Q (F0 m pc ls (.int x :: .int i :: .null :: rest)) := by
  intro T hT X
  obtain ⟨t, st, q⟩ := k T hT X
  exact ⟨t, X.iastoreNull hexec (g := F0 m pc ls (.int x :: .int i :: .null :: rest)) rfl (rest := rest) rfl (by rw [hb]; exact hdg) t st, q⟩
theorem vx_lastoreN (hexec : p.tables.exec = Jvm.exec) (hb : c.code = cc) {x : Int64} {i : Int32} (hdg : decode cc pc = .ok (.lastore, 1)) (k : vx_NoteN p l e R s m args below meth c H locs cells slots Q (F0 m pc ls rest)) : W p l e R s m args below meth c H locs cells slots Q (F0 m pc ls (.long x :: .int i :: .null :: rest)) := by
  intro T hT X
  obtain ⟨t, st, q⟩ := k T hT X
  exact ⟨t, X.lastoreNull hexec (g := F0 m pc ls (.long x :: .int i :: .null :: rest)) rfl (rest := rest) rfl (by rw [hb]; exact hdg) t st, q⟩
theorem vx_fastoreN (hexec : p.tables.exec = Jvm.exec) (hb : c.code = cc) {x : UInt32} {i : Int32} (hdg : decode cc pc = .ok (.fastore, 1)) (k : vx_NoteN p l e R s m args below meth c H locs cells slots Q (F0 m pc ls rest)) : W p l e R s m args below meth c H locs cells slots Q (F0 m pc ls (.float x :: .int i :: .null :: rest)) := by
  intro T hT X
  obtain ⟨t, st, q⟩ := k T hT X
  exact ⟨t, X.fastoreNull hexec (g := F0 m pc ls (.float x :: .int i :: .null :: rest)) rfl (rest := rest) rfl (by rw [hb]; exact hdg) t st, q⟩
theorem vx_dastoreN (hexec : p.tables.exec = Jvm.exec) (hb : c.code = cc) {x : UInt64} {i : Int32} (hdg : decode cc pc = .ok (.dastore, 1)) (k : vx_NoteN p l e R s m args below meth c H locs cells slots Q (F0 m pc ls rest)) : W p l e R s m args below meth c H locs cells slots Q (F0 m pc ls (.double x :: .int i :: .null :: rest)) := by
  intro T hT X
  obtain ⟨t, st, q⟩ := k T hT X
  exact ⟨t, X.dastoreNull hexec (g := F0 m pc ls (.double x :: .int i :: .null :: rest)) rfl (rest := rest) rfl (by rw [hb]; exact hdg) t st, q⟩
theorem vx_bastoreN (hexec : p.tables.exec = Jvm.exec) (hb : c.code = cc) {x : Int32} {i : Int32} (hdg : decode cc pc = .ok (.bastore, 1)) (k : vx_NoteN p l e R s m args below meth c H locs cells slots Q (F0 m pc ls rest)) : W p l e R s m args below meth c H locs cells slots Q (F0 m pc ls (.int x :: .int i :: .null :: rest)) := by
  intro T hT X
  obtain ⟨t, st, q⟩ := k T hT X
  exact ⟨t, X.bastoreNull hexec (g := F0 m pc ls (.int x :: .int i :: .null :: rest)) rfl (rest := rest) rfl (by rw [hb]; exact hdg) t st, q⟩
theorem vx_castoreN (hexec : p.tables.exec = Jvm.exec) (hb : c.code = cc) {x : Int32} {i : Int32} (hdg : decode cc pc = .ok (.castore, 1)) (k : vx_NoteN p l e R s m args below meth c H locs cells slots Q (F0 m pc ls rest)) : W p l e R s m args below meth c H locs cells slots Q (F0 m pc ls (.int x :: .int i :: .null :: rest)) := by
  intro T hT X
  obtain ⟨t, st, q⟩ := k T hT X
  exact ⟨t, X.castoreNull hexec (g := F0 m pc ls (.int x :: .int i :: .null :: rest)) rfl (rest := rest) rfl (by rw [hb]; exact hdg) t st, q⟩
theorem vx_sastoreN (hexec : p.tables.exec = Jvm.exec) (hb : c.code = cc) {x : Int32} {i : Int32} (hdg : decode cc pc = .ok (.sastore, 1)) (k : vx_NoteN p l e R s m args below meth c H locs cells slots Q (F0 m pc ls rest)) : W p l e R s m args below meth c H locs cells slots Q (F0 m pc ls (.int x :: .int i :: .null :: rest)) := by
  intro T hT X
  obtain ⟨t, st, q⟩ := k T hT X
  exact ⟨t, X.sastoreNull hexec (g := F0 m pc ls (.int x :: .int i :: .null :: rest)) rfl (rest := rest) rfl (by rw [hb]; exact hdg) t st, q⟩
theorem vx_invokeN {own C : String} {index maxL : Nat} {y : MethodName} {bytes : ByteArray} {ret : Option FieldType} (hexec : p.tables.exec = Jvm.exec) (hb : c.code = cc) (hown : s.vm.findClass own = some m.cls) (hlink : (Cond.methodLink own index y).before args s = true) (hinst : (Cond.instanceMethod y).before args s = true) (hcode : (Cond.code y bytes maxL ret).before args s = true) (hsel : (Cond.selects C y y).before args s = true)
    (hx : y.cls ≠ "java/lang/invoke/MethodHandle" ∧ y.cls ≠ "java/lang/invoke/VarHandle") {As : List Value} (hlen : (parseMethodDescriptor y.desc).map (fun d => d.parameters.length) = some As.length) (hdg : decode cc pc = .ok (.invokevirtual index, 3))
    (k : vx_NoteN p l e R s m args below meth c H locs cells slots Q (F0 m pc ls rest)) {st0 : List Value} (hst : st0 = As.reverse ++ .null :: rest) : W p l e R s m args below meth c H locs cells slots Q (F0 m pc ls st0) := by
  intro T hT X
  obtain ⟨r0, r, hn, hrm, hstR, hsigR⟩ := va_Decl.of hinst hcode
  obtain ⟨c2, r2, m2, q1, q2, q3, q4, kP, hkP, hkPi⟩ := Cond.selects_spec hsel
  cases hn.symm.trans q3
  have hl9 : As.length = r.sig.parameters.length := by
    rw [hsigR] at hlen
    exact (Option.some.inj hlen).symm
  obtain ⟨vm', X1, st1⟩ := X.invokevirtualNull hexec hown hlink hn hrm hstR hkP hkPi hx (g := F0 m pc ls st0) rfl (argsL := As) (rest := rest) hl9 hst (by rw [hb]; exact hdg)
  obtain ⟨t, st, q⟩ := k (T.setVm vm') hT X1
  exact ⟨t, st1 t st, q⟩
theorem vx_newarrayZ {atype : ArrayType} (hexec : p.tables.exec = Jvm.exec) (hb : c.code = cc) {n : Int32} (h0 : n < 0) (hdg : decode cc pc = .ok (.newarray atype, 2)) (k : ∀ tx : String, tx = toString n → vx_Note p l e R s m args below meth c H locs cells slots Q (F0 m pc ls rest) "java/lang/NegativeArraySizeException" tx) : W p l e R s m args below meth c H locs cells slots Q (F0 m pc ls (.int n :: rest)) := by
  intro T hT X
  obtain ⟨t, st, q⟩ := k _ rfl T hT X
  exact ⟨t, X.newarrayNegative hexec (g := F0 m pc ls (.int n :: rest)) rfl h0 (rest := rest) rfl (by rw [hb]; exact hdg) t st, q⟩
end
end VXM
/-! ===== END ===== -/
end
section
/-! ===== BEGIN printed: names, fields, word lists, decode rows ===== -/
def RX0 : String := "TurnEstimator"
def TX0 : u_T := fun k => match k with
  | 0 => ("TurnEstimator", "inflows", "[I", true)
  | 1 => ("TurnEstimator", "outflows", "[I", true)
  | 2 => ("TurnEstimator", "weights", "[I", true)
  | 3 => ("TurnEstimator", "estimates", "[D", true)
  | 4 => ("TurnEstimator", "targets", "[I", true)
  | 5 => ("TurnEstimator", "roundedTable", "[I", true)
  | 6 => ("TurnEstimator", "possibleTable", "[I", true)
  | 7 => ("TurnEstimator", "outflowsLeft", "[I", true)
  | 8 => ("TurnEstimator", "fractions", "[D", true)
  | 9 => ("TurnEstimator", "armCount", "I", false)
  | _ => ("TurnEstimator", "roundCount", "I", false)
def tyX0 : Nat → FieldType := fun k => match k with
  | 0 => .array .int
  | 1 => .array .int
  | 2 => .array .int
  | 3 => .array .double
  | 4 => .array .int
  | 5 => .array .int
  | 6 => .array .int
  | 7 => .array .int
  | 8 => .array .double
  | 9 => .int
  | _ => .int
abbrev wsX00 : List Cond := u_ws RX0 TX0 11
theorem nmX0 : ∀ a, a < 11 → ∀ b, b < 11 → a ≠ b → (TX0 a).2.1 ≠ (TX0 b).2.1 := by decide +kernel
theorem tyX0_ok : ∀ k, k < 11 → parseFieldDescriptor (TX0 k).2.2.1 = some (tyX0 k) := by decide +kernel
abbrev cX0_init : ByteArray := prog_1_method_1_code
def yX0_init : MethodName := ⟨RX0, "<init>", "()V"⟩
abbrev cX0_setArms : ByteArray := prog_1_method_2_code
def yX0_setArms : MethodName := ⟨RX0, "setArms", "(I)I"⟩
abbrev cX0_arms : ByteArray := prog_1_method_3_code
def yX0_arms : MethodName := ⟨RX0, "arms", "()I"⟩
abbrev cX0_setInflow : ByteArray := prog_1_method_4_code
def yX0_setInflow : MethodName := ⟨RX0, "setInflow", "(II)I"⟩
abbrev cX0_setOutflow : ByteArray := prog_1_method_5_code
def yX0_setOutflow : MethodName := ⟨RX0, "setOutflow", "(II)I"⟩
abbrev cX0_setWeight : ByteArray := prog_1_method_6_code
def yX0_setWeight : MethodName := ⟨RX0, "setWeight", "(III)I"⟩
abbrev cX0_scale : ByteArray := prog_1_method_7_code
def yX0_scale : MethodName := ⟨RX0, "scale", "(I)I"⟩
abbrev cX0_imbalance : ByteArray := prog_1_method_8_code
def yX0_imbalance : MethodName := ⟨RX0, "imbalance", "()I"⟩
abbrev cX0_isPossible : ByteArray := prog_1_method_9_code
def yX0_isPossible : MethodName := ⟨RX0, "isPossible", "()Z"⟩
abbrev cX0_crowdedSet : ByteArray := prog_1_method_10_code
def yX0_crowdedSet : MethodName := ⟨RX0, "crowdedSet", "()I"⟩
abbrev cX0_excess : ByteArray := prog_1_method_11_code
def yX0_excess : MethodName := ⟨RX0, "excess", "(I)I"⟩
abbrev cX0_iterate : ByteArray := prog_1_method_12_code
def yX0_iterate : MethodName := ⟨RX0, "iterate", "(I)I"⟩
abbrev cX0_fit : ByteArray := prog_1_method_13_code
def yX0_fit : MethodName := ⟨RX0, "fit", "(II)I"⟩
abbrev cX0_reset : ByteArray := prog_1_method_14_code
def yX0_reset : MethodName := ⟨RX0, "reset", "()I"⟩
abbrev cX0_rounds : ByteArray := prog_1_method_15_code
def yX0_rounds : MethodName := ⟨RX0, "rounds", "()I"⟩
abbrev cX0_estimate : ByteArray := prog_1_method_16_code
def yX0_estimate : MethodName := ⟨RX0, "estimate", "(II)D"⟩
abbrev cX0_sum : ByteArray := prog_1_method_17_code
def yX0_sum : MethodName := ⟨RX0, "sum", "(IZ)D"⟩
abbrev cX0_misfit : ByteArray := prog_1_method_18_code
def yX0_misfit : MethodName := ⟨RX0, "misfit", "()D"⟩
abbrev cX0_share : ByteArray := prog_1_method_19_code
def yX0_share : MethodName := ⟨RX0, "share", "(II)D"⟩
abbrev cX0_crossRatio : ByteArray := prog_1_method_20_code
def yX0_crossRatio : MethodName := ⟨RX0, "crossRatio", "(IIII)D"⟩
abbrev cX0_busiestTurn : ByteArray := prog_1_method_21_code
def yX0_busiestTurn : MethodName := ⟨RX0, "busiestTurn", "()I"⟩
abbrev cX0_rounded : ByteArray := prog_1_method_22_code
def yX0_rounded : MethodName := ⟨RX0, "rounded", "(II)I"⟩
abbrev cX0_roundedMisfit : ByteArray := prog_1_method_23_code
def yX0_roundedMisfit : MethodName := ⟨RX0, "roundedMisfit", "()I"⟩
abbrev cX0_possible : ByteArray := prog_1_method_24_code
def yX0_possible : MethodName := ⟨RX0, "possible", "(II)I"⟩
abbrev cX0_digest : ByteArray := prog_1_method_25_code
def yX0_digest : MethodName := ⟨RX0, "digest", "()J"⟩
abbrev cX0_requireArm : ByteArray := prog_1_method_26_code
def yX0_requireArm : MethodName := ⟨RX0, "requireArm", "(I)V"⟩
abbrev cX0_requireWithin : ByteArray := prog_1_method_27_code
def yX0_requireWithin : MethodName := ⟨RX0, "requireWithin", "(III)V"⟩
abbrev cX0_requireScalable : ByteArray := prog_1_method_28_code
def yX0_requireScalable : MethodName := ⟨RX0, "requireScalable", "(II)V"⟩
abbrev cX0_turn : ByteArray := prog_1_method_29_code
def yX0_turn : MethodName := ⟨RX0, "turn", "(II)I"⟩
abbrev cX0_allArms : ByteArray := prog_1_method_30_code
def yX0_allArms : MethodName := ⟨RX0, "allArms", "()I"⟩
abbrev cX0_contains : ByteArray := prog_1_method_31_code
def yX0_contains : MethodName := ⟨RX0, "contains", "(II)Z"⟩
abbrev cX0_isOpen : ByteArray := prog_1_method_32_code
def yX0_isOpen : MethodName := ⟨RX0, "isOpen", "(II)Z"⟩
abbrev cX0_beginJunction : ByteArray := prog_1_method_33_code
def yX0_beginJunction : MethodName := ⟨RX0, "beginJunction", "(I)V"⟩
abbrev cX0_putWeight : ByteArray := prog_1_method_34_code
def yX0_putWeight : MethodName := ⟨RX0, "putWeight", "(III)V"⟩
abbrev cX0_setCount : ByteArray := prog_1_method_35_code
def yX0_setCount : MethodName := ⟨RX0, "setCount", "([III)I"⟩
abbrev cX0_scaled : ByteArray := prog_1_method_36_code
def yX0_scaled : MethodName := ⟨RX0, "scaled", "(II)I"⟩
abbrev cX0_total : ByteArray := prog_1_method_37_code
def yX0_total : MethodName := ⟨RX0, "total", "([I)I"⟩
abbrev cX0_reachedFrom : ByteArray := prog_1_method_38_code
def yX0_reachedFrom : MethodName := ⟨RX0, "reachedFrom", "(I)I"⟩
abbrev cX0_excessOver : ByteArray := prog_1_method_39_code
def yX0_excessOver : MethodName := ⟨RX0, "excessOver", "(I[I)I"⟩
abbrev cX0_fillPossibleTable : ByteArray := prog_1_method_40_code
def yX0_fillPossibleTable : MethodName := ⟨RX0, "fillPossibleTable", "()V"⟩
abbrev cX0_greatestPossible : ByteArray := prog_1_method_41_code
def yX0_greatestPossible : MethodName := ⟨RX0, "greatestPossible", "(III)I"⟩
abbrev cX0_resetEstimate : ByteArray := prog_1_method_42_code
def yX0_resetEstimate : MethodName := ⟨RX0, "resetEstimate", "()V"⟩
abbrev cX0_rowSum : ByteArray := prog_1_method_43_code
def yX0_rowSum : MethodName := ⟨RX0, "rowSum", "(I)D"⟩
abbrev cX0_columnSum : ByteArray := prog_1_method_44_code
def yX0_columnSum : MethodName := ⟨RX0, "columnSum", "(I)D"⟩
abbrev cX0_carryOutRound : ByteArray := prog_1_method_45_code
def yX0_carryOutRound : MethodName := ⟨RX0, "carryOutRound", "()V"⟩
abbrev cX0_carryOutRowStep : ByteArray := prog_1_method_46_code
def yX0_carryOutRowStep : MethodName := ⟨RX0, "carryOutRowStep", "(I)V"⟩
abbrev cX0_carryOutColumnStep : ByteArray := prog_1_method_47_code
def yX0_carryOutColumnStep : MethodName := ⟨RX0, "carryOutColumnStep", "(I)V"⟩
abbrev cX0_distance : ByteArray := prog_1_method_48_code
def yX0_distance : MethodName := ⟨RX0, "distance", "(DD)D"⟩
abbrev cX0_roundAllRows : ByteArray := prog_1_method_49_code
def yX0_roundAllRows : MethodName := ⟨RX0, "roundAllRows", "()V"⟩
abbrev cX0_roundRow : ByteArray := prog_1_method_50_code
def yX0_roundRow : MethodName := ⟨RX0, "roundRow", "(I)V"⟩
abbrev cX0_raiseGreatestFractions : ByteArray := prog_1_method_51_code
def yX0_raiseGreatestFractions : MethodName := ⟨RX0, "raiseGreatestFractions", "(II)V"⟩
abbrev cX0_greatestFraction : ByteArray := prog_1_method_52_code
def yX0_greatestFraction : MethodName := ⟨RX0, "greatestFraction", "(I)I"⟩
abbrev cX0_roundedDifference : ByteArray := prog_1_method_53_code
def yX0_roundedDifference : MethodName := ⟨RX0, "roundedDifference", "()I"⟩
abbrev cX0_mixed : ByteArray := prog_1_method_54_code
def yX0_mixed : MethodName := ⟨RX0, "mixed", "(JJ)J"⟩
abbrev cX0_mixedTurn : ByteArray := prog_1_method_55_code
def yX0_mixedTurn : MethodName := ⟨RX0, "mixedTurn", "(JI)J"⟩
abbrev cX0_thousandthsOf : ByteArray := prog_1_method_56_code
def yX0_thousandthsOf : MethodName := ⟨RX0, "thousandthsOf", "(D)J"⟩
def RX1 : String := "TurnEstimatorModel"
def TX1 : u_T := fun k => match k with
  | 0 => ("TurnEstimatorModel", "thrown", "I", false)
  | 1 => ("TurnEstimatorModel", "arms", "I", false)
  | 2 => ("TurnEstimatorModel", "inflow", "[I", true)
  | 3 => ("TurnEstimatorModel", "outflow", "[I", true)
  | 4 => ("TurnEstimatorModel", "weights", "[I", true)
  | 5 => ("TurnEstimatorModel", "estimates", "[D", true)
  | 6 => ("TurnEstimatorModel", "roundsDone", "I", false)
  | 7 => ("TurnEstimatorModel", "whole", "[I", true)
  | 8 => ("TurnEstimatorModel", "fraction", "[D", true)
  | 9 => ("TurnEstimatorModel", "table", "[I", true)
  | 10 => ("TurnEstimatorModel", "rowLeft", "[I", true)
  | 11 => ("TurnEstimatorModel", "columnLeft", "[I", true)
  | _ => ("TurnEstimatorModel", "h", "J", false)
def tyX1 : Nat → FieldType := fun k => match k with
  | 0 => .int
  | 1 => .int
  | 2 => .array .int
  | 3 => .array .int
  | 4 => .array .int
  | 5 => .array .double
  | 6 => .int
  | 7 => .array .int
  | 8 => .array .double
  | 9 => .array .int
  | 10 => .array .int
  | 11 => .array .int
  | _ => .long
abbrev wsX10 : List Cond := u_ws RX1 TX1 13
theorem nmX1 : ∀ a, a < 13 → ∀ b, b < 13 → a ≠ b → (TX1 a).2.1 ≠ (TX1 b).2.1 := by decide +kernel
theorem tyX1_ok : ∀ k, k < 13 → parseFieldDescriptor (TX1 k).2.2.1 = some (tyX1 k) := by decide +kernel
abbrev cX1_init : ByteArray := prog_3_method_1_code
def yX1_init : MethodName := ⟨RX1, "<init>", "()V"⟩
abbrev cX1_thrown : ByteArray := prog_3_method_2_code
def yX1_thrown : MethodName := ⟨RX1, "thrown", "()I"⟩
abbrev cX1_within : ByteArray := prog_3_method_3_code
def yX1_within : MethodName := ⟨RX1, "within", "(III)Z"⟩
abbrev cX1_isArm : ByteArray := prog_3_method_4_code
def yX1_isArm : MethodName := ⟨RX1, "isArm", "(I)Z"⟩
abbrev cX1_layWeights : ByteArray := prog_3_method_5_code
def yX1_layWeights : MethodName := ⟨RX1, "layWeights", "()V"⟩
abbrev cX1_begin : ByteArray := prog_3_method_6_code
def yX1_begin : MethodName := ⟨RX1, "begin", "()V"⟩
abbrev cX1_setArms : ByteArray := prog_3_method_7_code
def yX1_setArms : MethodName := ⟨RX1, "setArms", "(I)I"⟩
abbrev cX1_arms : ByteArray := prog_3_method_8_code
def yX1_arms : MethodName := ⟨RX1, "arms", "()I"⟩
abbrev cX1_setInflow : ByteArray := prog_3_method_9_code
def yX1_setInflow : MethodName := ⟨RX1, "setInflow", "(II)I"⟩
abbrev cX1_setOutflow : ByteArray := prog_3_method_10_code
def yX1_setOutflow : MethodName := ⟨RX1, "setOutflow", "(II)I"⟩
abbrev cX1_setWeight : ByteArray := prog_3_method_11_code
def yX1_setWeight : MethodName := ⟨RX1, "setWeight", "(III)I"⟩
abbrev cX1_scaled : ByteArray := prog_3_method_12_code
def yX1_scaled : MethodName := ⟨RX1, "scaled", "(II)I"⟩
abbrev cX1_isScalable : ByteArray := prog_3_method_13_code
def yX1_isScalable : MethodName := ⟨RX1, "isScalable", "(I)Z"⟩
abbrev cX1_scale : ByteArray := prog_3_method_14_code
def yX1_scale : MethodName := ⟨RX1, "scale", "(I)I"⟩
abbrev cX1_difference : ByteArray := prog_3_method_15_code
def yX1_difference : MethodName := ⟨RX1, "difference", "()I"⟩
abbrev cX1_imbalance : ByteArray := prog_3_method_16_code
def yX1_imbalance : MethodName := ⟨RX1, "imbalance", "()I"⟩
abbrev cX1_excessOf : ByteArray := prog_3_method_17_code
def yX1_excessOf : MethodName := ⟨RX1, "excessOf", "(I)I"⟩
abbrev cX1_crowded : ByteArray := prog_3_method_18_code
def yX1_crowded : MethodName := ⟨RX1, "crowded", "()I"⟩
abbrev cX1_arePossible : ByteArray := prog_3_method_19_code
def yX1_arePossible : MethodName := ⟨RX1, "arePossible", "()Z"⟩
abbrev cX1_isPossible : ByteArray := prog_3_method_20_code
def yX1_isPossible : MethodName := ⟨RX1, "isPossible", "()Z"⟩
abbrev cX1_crowdedSet : ByteArray := prog_3_method_21_code
def yX1_crowdedSet : MethodName := ⟨RX1, "crowdedSet", "()I"⟩
abbrev cX1_excess : ByteArray := prog_3_method_22_code
def yX1_excess : MethodName := ⟨RX1, "excess", "(I)I"⟩
abbrev cX1_rowSum : ByteArray := prog_3_method_23_code
def yX1_rowSum : MethodName := ⟨RX1, "rowSum", "(I)D"⟩
abbrev cX1_columnSum : ByteArray := prog_3_method_24_code
def yX1_columnSum : MethodName := ⟨RX1, "columnSum", "(I)D"⟩
abbrev cX1_rowStep : ByteArray := prog_3_method_25_code
def yX1_rowStep : MethodName := ⟨RX1, "rowStep", "(I)V"⟩
abbrev cX1_columnStep : ByteArray := prog_3_method_26_code
def yX1_columnStep : MethodName := ⟨RX1, "columnStep", "(I)V"⟩
abbrev cX1_oneRound : ByteArray := prog_3_method_27_code
def yX1_oneRound : MethodName := ⟨RX1, "oneRound", "()V"⟩
abbrev cX1_far : ByteArray := prog_3_method_28_code
def yX1_far : MethodName := ⟨RX1, "far", "(DD)D"⟩
abbrev cX1_misfitNow : ByteArray := prog_3_method_29_code
def yX1_misfitNow : MethodName := ⟨RX1, "misfitNow", "()D"⟩
abbrev cX1_iterate : ByteArray := prog_3_method_30_code
def yX1_iterate : MethodName := ⟨RX1, "iterate", "(I)I"⟩
abbrev cX1_fit : ByteArray := prog_3_method_31_code
def yX1_fit : MethodName := ⟨RX1, "fit", "(II)I"⟩
abbrev cX1_reset : ByteArray := prog_3_method_32_code
def yX1_reset : MethodName := ⟨RX1, "reset", "()I"⟩
abbrev cX1_rounds : ByteArray := prog_3_method_33_code
def yX1_rounds : MethodName := ⟨RX1, "rounds", "()I"⟩
abbrev cX1_areArms : ByteArray := prog_3_method_34_code
def yX1_areArms : MethodName := ⟨RX1, "areArms", "(II)Z"⟩
abbrev cX1_estimate : ByteArray := prog_3_method_35_code
def yX1_estimate : MethodName := ⟨RX1, "estimate", "(II)D"⟩
abbrev cX1_sum : ByteArray := prog_3_method_36_code
def yX1_sum : MethodName := ⟨RX1, "sum", "(IZ)D"⟩
abbrev cX1_misfit : ByteArray := prog_3_method_37_code
def yX1_misfit : MethodName := ⟨RX1, "misfit", "()D"⟩
abbrev cX1_share : ByteArray := prog_3_method_38_code
def yX1_share : MethodName := ⟨RX1, "share", "(II)D"⟩
abbrev cX1_crossRatio : ByteArray := prog_3_method_39_code
def yX1_crossRatio : MethodName := ⟨RX1, "crossRatio", "(IIII)D"⟩
abbrev cX1_busiest : ByteArray := prog_3_method_40_code
def yX1_busiest : MethodName := ⟨RX1, "busiest", "()I"⟩
abbrev cX1_busiestTurn : ByteArray := prog_3_method_41_code
def yX1_busiestTurn : MethodName := ⟨RX1, "busiestTurn", "()I"⟩
abbrev cX1_nextOf : ByteArray := prog_3_method_42_code
def yX1_nextOf : MethodName := ⟨RX1, "nextOf", "(I)I"⟩
abbrev cX1_roundRow : ByteArray := prog_3_method_43_code
def yX1_roundRow : MethodName := ⟨RX1, "roundRow", "(I)V"⟩
abbrev cX1_layWhole : ByteArray := prog_3_method_44_code
def yX1_layWhole : MethodName := ⟨RX1, "layWhole", "()V"⟩
abbrev cX1_rounded : ByteArray := prog_3_method_45_code
def yX1_rounded : MethodName := ⟨RX1, "rounded", "(II)I"⟩
abbrev cX1_wholeMisfit : ByteArray := prog_3_method_46_code
def yX1_wholeMisfit : MethodName := ⟨RX1, "wholeMisfit", "()I"⟩
abbrev cX1_roundedMisfit : ByteArray := prog_3_method_47_code
def yX1_roundedMisfit : MethodName := ⟨RX1, "roundedMisfit", "()I"⟩
abbrev cX1_leftBy : ByteArray := prog_3_method_48_code
def yX1_leftBy : MethodName := ⟨RX1, "leftBy", "(II)I"⟩
abbrev cX1_layCell : ByteArray := prog_3_method_49_code
def yX1_layCell : MethodName := ⟨RX1, "layCell", "(II)V"⟩
abbrev cX1_layTable : ByteArray := prog_3_method_50_code
def yX1_layTable : MethodName := ⟨RX1, "layTable", "()V"⟩
abbrev cX1_possibleNow : ByteArray := prog_3_method_51_code
def yX1_possibleNow : MethodName := ⟨RX1, "possibleNow", "(II)I"⟩
abbrev cX1_possible : ByteArray := prog_3_method_52_code
def yX1_possible : MethodName := ⟨RX1, "possible", "(II)I"⟩
abbrev cX1_mix : ByteArray := prog_3_method_53_code
def yX1_mix : MethodName := ⟨RX1, "mix", "(J)V"⟩
abbrev cX1_mixTurns : ByteArray := prog_3_method_54_code
def yX1_mixTurns : MethodName := ⟨RX1, "mixTurns", "()V"⟩
abbrev cX1_digest : ByteArray := prog_3_method_55_code
def yX1_digest : MethodName := ⟨RX1, "digest", "()J"⟩
def RJx00060 : String := "java/lang/ArrayIndexOutOfBoundsException"
def TJx00060 : u_T := fun k => match k with
  | 0 => ("java/lang/Throwable", "backtrace", "Ljava/lang/Object;", false)
  | 1 => ("java/lang/Throwable", "detailMessage", "Ljava/lang/String;", false)
  | 2 => ("java/lang/Throwable", "cause", "Ljava/lang/Throwable;", false)
  | 3 => ("java/lang/Throwable", "stackTrace", "[Ljava/lang/StackTraceElement;", false)
  | 4 => ("java/lang/Throwable", "depth", "I", false)
  | _ => ("java/lang/Throwable", "suppressedExceptions", "Ljava/util/List;", false)
def tyJx00060 : Nat → FieldType := fun k => match k with
  | 0 => .object "java/lang/Object"
  | 1 => .object "java/lang/String"
  | 2 => .object "java/lang/Throwable"
  | 3 => .array (.object "java/lang/StackTraceElement")
  | 4 => .int
  | _ => .object "java/util/List"
abbrev wsJx000600 : List Cond := u_ws RJx00060 TJx00060 6
theorem nmJx00060 : ∀ a, a < 6 → ∀ b, b < 6 → a ≠ b → (TJx00060 a).2.1 ≠ (TJx00060 b).2.1 := by decide +kernel
theorem tyJx00060_ok : ∀ k, k < 6 → parseFieldDescriptor (TJx00060 k).2.2.1 = some (tyJx00060 k) := by decide +kernel
abbrev cJx00060_init_a7421 : ByteArray := prog_5_method_2_code
def yJx00060_init_a7421 : MethodName := ⟨RJx00060, "<init>", "(Ljava/lang/String;)V"⟩
def RJ9 : String := "java/lang/Math"
def TJ9 : u_T := fun k => match k with
  | _ => ("", "", "", false)
def tyJ9 : Nat → FieldType := fun k => match k with
  | _ => .int
abbrev wsJ90 : List Cond := u_ws RJ9 TJ9 0
theorem nmJ9 : ∀ a, a < 0 → ∀ b, b < 0 → a ≠ b → (TJ9 a).2.1 ≠ (TJ9 b).2.1 := by decide +kernel
theorem tyJ9_ok : ∀ k, k < 0 → parseFieldDescriptor (TJ9 k).2.2.1 = some (tyJ9 k) := by decide +kernel
abbrev cJ9_abs_0f7a4 : ByteArray := prog_10_method_59_code
def yJ9_abs_0f7a4 : MethodName := ⟨RJ9, "abs", "(I)I"⟩
abbrev cJ9_min_7cf53 : ByteArray := prog_10_method_69_code
def yJ9_min_7cf53 : MethodName := ⟨RJ9, "min", "(II)I"⟩
def RJ0 : String := "java/lang/String"
def TJ0 : u_T := fun k => match k with
  | 0 => ("java/lang/String", "value", "[B", true)
  | _ => ("java/lang/String", "coder", "B", true)
def tyJ0 : Nat → FieldType := fun k => match k with
  | 0 => .array .byte
  | _ => .byte
abbrev wsJ00 : List Cond := u_ws RJ0 TJ0 2
theorem nmJ0 : ∀ a, a < 2 → ∀ b, b < 2 → a ≠ b → (TJ0 a).2.1 ≠ (TJ0 b).2.1 := by decide +kernel
theorem tyJ0_ok : ∀ k, k < 2 → parseFieldDescriptor (TJ0 k).2.2.1 = some (tyJ0 k) := by decide +kernel
def RJ10 : String := "java/lang/System"
def TJ10 : u_T := fun k => match k with
  | _ => ("", "", "", false)
def tyJ10 : Nat → FieldType := fun k => match k with
  | _ => .int
abbrev wsJ100 : List Cond := u_ws RJ10 TJ10 0
theorem nmJ10 : ∀ a, a < 0 → ∀ b, b < 0 → a ≠ b → (TJ10 a).2.1 ≠ (TJ10 b).2.1 := by decide +kernel
theorem tyJ10_ok : ∀ k, k < 0 → parseFieldDescriptor (TJ10 k).2.2.1 = some (tyJ10 k) := by decide +kernel
def RL : String := "TurnEstimatorLaw"
abbrev cL_setArms : ByteArray := method_3_code
def yL_setArms : MethodName := ⟨RL, "setArms", "(LTurnEstimator;I[J)I"⟩
abbrev cL_setInflow : ByteArray := method_4_code
def yL_setInflow : MethodName := ⟨RL, "setInflow", "(LTurnEstimator;II[J)I"⟩
abbrev cL_setOutflow : ByteArray := method_5_code
def yL_setOutflow : MethodName := ⟨RL, "setOutflow", "(LTurnEstimator;II[J)I"⟩
abbrev cL_setWeight : ByteArray := method_6_code
def yL_setWeight : MethodName := ⟨RL, "setWeight", "(LTurnEstimator;III[J)I"⟩
abbrev cL_scale : ByteArray := method_7_code
def yL_scale : MethodName := ⟨RL, "scale", "(LTurnEstimator;I[J)I"⟩
abbrev cL_excess : ByteArray := method_8_code
def yL_excess : MethodName := ⟨RL, "excess", "(LTurnEstimator;I[J)I"⟩
abbrev cL_iterate : ByteArray := method_9_code
def yL_iterate : MethodName := ⟨RL, "iterate", "(LTurnEstimator;I[J)I"⟩
abbrev cL_fit : ByteArray := method_10_code
def yL_fit : MethodName := ⟨RL, "fit", "(LTurnEstimator;II[J)I"⟩
abbrev cL_estimate : ByteArray := method_11_code
def yL_estimate : MethodName := ⟨RL, "estimate", "(LTurnEstimator;II[D)I"⟩
abbrev cL_sum : ByteArray := method_12_code
def yL_sum : MethodName := ⟨RL, "sum", "(LTurnEstimator;IZ[D)I"⟩
abbrev cL_share : ByteArray := method_13_code
def yL_share : MethodName := ⟨RL, "share", "(LTurnEstimator;II[D)I"⟩
abbrev cL_crossRatio : ByteArray := method_14_code
def yL_crossRatio : MethodName := ⟨RL, "crossRatio", "(LTurnEstimator;IIII[D)I"⟩
abbrev cL_rounded : ByteArray := method_15_code
def yL_rounded : MethodName := ⟨RL, "rounded", "(LTurnEstimator;II[J)I"⟩
abbrev cL_possible : ByteArray := method_16_code
def yL_possible : MethodName := ⟨RL, "possible", "(LTurnEstimator;II[J)I"⟩
abbrev cL_law : ByteArray := code
def yL_law : MethodName := ⟨RL, "law", "([I)Z"⟩
def wsX0_turn : List Cond := .code yX0_turn cX0_turn 2 (some .int) :: ([])
def wsX0_putWeight : List Cond := .code yX0_putWeight cX0_putWeight 4 none :: ([.fieldLink RX0 16 "TurnEstimator" "weights" "[I", .fieldLink RX0 23 "TurnEstimator" "targets" "[I", .methodLink RX0 57 yX0_turn, .static yX0_turn, .initialized RX0, .code yX0_turn cX0_turn 2 (some .int)] ++ wsX00 ++ (vx_atM "java/lang/ArrayIndexOutOfBoundsException" ["java/lang/IndexOutOfBoundsException", "java/lang/RuntimeException", "java/lang/Exception"]).filter goodWord)
def wsX0_resetEstimate : List Cond := .code yX0_resetEstimate cX0_resetEstimate 3 none :: ([.fieldLink RX0 46 "TurnEstimator" "armCount" "I", .fieldLink RX0 19 "TurnEstimator" "estimates" "[D", .fieldLink RX0 16 "TurnEstimator" "weights" "[I", .fieldLink RX0 95 "TurnEstimator" "roundCount" "I", .methodLink RX0 57 yX0_turn, .static yX0_turn, .initialized RX0, .code yX0_turn cX0_turn 2 (some .int)] ++ wsX00 ++ (vx_atM "java/lang/ArrayIndexOutOfBoundsException" ["java/lang/IndexOutOfBoundsException", "java/lang/RuntimeException", "java/lang/Exception"]).filter goodWord)
def wsX0_beginJunction : List Cond := .code yX0_beginJunction cX0_beginJunction 4 none :: ([.fieldLink RX0 46 "TurnEstimator" "armCount" "I", .fieldLink RX0 9 "TurnEstimator" "inflows" "[I", .fieldLink RX0 13 "TurnEstimator" "outflows" "[I", .fieldLink RX0 23 "TurnEstimator" "targets" "[I", .methodLink RX0 61 yX0_putWeight, .instanceMethod yX0_putWeight, .selects RX0 yX0_putWeight yX0_putWeight, .initialized RX0, .code yX0_putWeight cX0_putWeight 4 none, .fieldLink RX0 16 "TurnEstimator" "weights" "[I", .methodLink RX0 57 yX0_turn, .static yX0_turn, .code yX0_turn cX0_turn 2 (some .int), .methodLink RX0 64 yX0_resetEstimate, .instanceMethod yX0_resetEstimate, .selects RX0 yX0_resetEstimate yX0_resetEstimate, .code yX0_resetEstimate cX0_resetEstimate 3 none, .fieldLink RX0 19 "TurnEstimator" "estimates" "[D", .fieldLink RX0 95 "TurnEstimator" "roundCount" "I"] ++ wsX00 ++ (vx_atM "java/lang/ArrayIndexOutOfBoundsException" ["java/lang/IndexOutOfBoundsException", "java/lang/RuntimeException", "java/lang/Exception"]).filter goodWord)
def wsX0_init_r1 : List Cond := [Cond.methodLink RX0 1 objectInit, Cond.instanceMethod objectInit, Cond.code objectInit ⟨#[0xb1]⟩ 1 none, Cond.arrayClass .int, Cond.fieldLink RX0 9 "TurnEstimator" "inflows" "[I", Cond.fieldLink RX0 13 "TurnEstimator" "outflows" "[I", Cond.fieldLink RX0 16 "TurnEstimator" "weights" "[I", Cond.arrayClass .double, Cond.fieldLink RX0 19 "TurnEstimator" "estimates" "[D", Cond.fieldLink RX0 23 "TurnEstimator" "targets" "[I", Cond.fieldLink RX0 26 "TurnEstimator" "roundedTable" "[I", Cond.fieldLink RX0 29 "TurnEstimator" "possibleTable" "[I", Cond.fieldLink RX0 32 "TurnEstimator" "outflowsLeft" "[I", Cond.fieldLink RX0 35 "TurnEstimator" "fractions" "[D", Cond.methodLink RX0 38 yX0_beginJunction, Cond.instanceMethod yX0_beginJunction, Cond.selects RX0 yX0_beginJunction yX0_beginJunction, Cond.initialized RX0, Cond.code yX0_beginJunction cX0_beginJunction 4 none, Cond.fieldLink RX0 46 "TurnEstimator" "armCount" "I", Cond.methodLink RX0 61 yX0_putWeight, Cond.instanceMethod yX0_putWeight, Cond.selects RX0 yX0_putWeight yX0_putWeight, Cond.code yX0_putWeight cX0_putWeight 4 none]
def wsX0_init_r2 : List Cond := [Cond.methodLink RX0 57 yX0_turn, Cond.static yX0_turn, Cond.code yX0_turn cX0_turn 2 (some .int), Cond.methodLink RX0 64 yX0_resetEstimate, Cond.instanceMethod yX0_resetEstimate, Cond.selects RX0 yX0_resetEstimate yX0_resetEstimate, Cond.code yX0_resetEstimate cX0_resetEstimate 3 none, Cond.fieldLink RX0 95 "TurnEstimator" "roundCount" "I"]
def wsX0_init : List Cond := .code yX0_init cX0_init 1 none :: ((wsX0_init_r1 ++ wsX0_init_r2) ++ wsX00 ++ (vx_atM "java/lang/ArrayIndexOutOfBoundsException" ["java/lang/IndexOutOfBoundsException", "java/lang/RuntimeException", "java/lang/Exception"]).filter goodWord)
def wsX0_requireWithin : List Cond := .code yX0_requireWithin cX0_requireWithin 3 none :: ([.classLink RX0 157 "java/lang/IllegalArgumentException", .initialized "java/lang/IllegalArgumentException"] ++ (vx_atS RX0 161 "java/lang/IllegalArgumentException" ["java/lang/RuntimeException", "java/lang/Exception"]).filter goodWord)
def wsX0_setArms_r1 : List Cond := [Cond.fieldLink RX0 46 "TurnEstimator" "armCount" "I", Cond.methodLink RX0 42 yX0_requireWithin, Cond.static yX0_requireWithin, Cond.initialized RX0, Cond.code yX0_requireWithin cX0_requireWithin 3 none, Cond.classLink RX0 157 "java/lang/IllegalArgumentException", Cond.initialized "java/lang/IllegalArgumentException", Cond.methodLink RX0 38 yX0_beginJunction, Cond.instanceMethod yX0_beginJunction, Cond.selects RX0 yX0_beginJunction yX0_beginJunction, Cond.code yX0_beginJunction cX0_beginJunction 4 none, Cond.fieldLink RX0 9 "TurnEstimator" "inflows" "[I", Cond.fieldLink RX0 13 "TurnEstimator" "outflows" "[I", Cond.fieldLink RX0 23 "TurnEstimator" "targets" "[I", Cond.methodLink RX0 61 yX0_putWeight, Cond.instanceMethod yX0_putWeight, Cond.selects RX0 yX0_putWeight yX0_putWeight, Cond.code yX0_putWeight cX0_putWeight 4 none, Cond.fieldLink RX0 16 "TurnEstimator" "weights" "[I", Cond.methodLink RX0 57 yX0_turn, Cond.static yX0_turn, Cond.code yX0_turn cX0_turn 2 (some .int), Cond.methodLink RX0 64 yX0_resetEstimate, Cond.instanceMethod yX0_resetEstimate]
def wsX0_setArms_r2 : List Cond := [Cond.selects RX0 yX0_resetEstimate yX0_resetEstimate, Cond.code yX0_resetEstimate cX0_resetEstimate 3 none, Cond.fieldLink RX0 19 "TurnEstimator" "estimates" "[D", Cond.fieldLink RX0 95 "TurnEstimator" "roundCount" "I"]
def wsX0_setArms : List Cond := .code yX0_setArms cX0_setArms 3 (some .int) :: ((wsX0_setArms_r1 ++ wsX0_setArms_r2) ++ wsX00 ++ (vx_atS RX0 161 "java/lang/IllegalArgumentException" ["java/lang/RuntimeException", "java/lang/Exception"]).filter goodWord ++ (vx_atM "java/lang/ArrayIndexOutOfBoundsException" ["java/lang/IndexOutOfBoundsException", "java/lang/RuntimeException", "java/lang/Exception"]).filter goodWord)
def wsX0_arms : List Cond := .code yX0_arms cX0_arms 1 (some .int) :: ([.fieldLink RX0 46 "TurnEstimator" "armCount" "I"] ++ wsX00)
def wsX0_requireArm : List Cond := .code yX0_requireArm cX0_requireArm 2 none :: ([.classLink RX0 152 "java/lang/IndexOutOfBoundsException", .initialized "java/lang/IndexOutOfBoundsException", .fieldLink RX0 46 "TurnEstimator" "armCount" "I"] ++ wsX00 ++ (vx_atS RX0 156 "java/lang/IndexOutOfBoundsException" ["java/lang/RuntimeException", "java/lang/Exception"]).filter goodWord)
def wsX0_setCount : List Cond := .code yX0_setCount cX0_setCount 5 (some .int) :: ([.methodLink RX0 54 yX0_requireArm, .instanceMethod yX0_requireArm, .selects RX0 yX0_requireArm yX0_requireArm, .initialized RX0, .code yX0_requireArm cX0_requireArm 2 none, .classLink RX0 152 "java/lang/IndexOutOfBoundsException", .initialized "java/lang/IndexOutOfBoundsException", .fieldLink RX0 46 "TurnEstimator" "armCount" "I", .methodLink RX0 42 yX0_requireWithin, .static yX0_requireWithin, .code yX0_requireWithin cX0_requireWithin 3 none, .classLink RX0 157 "java/lang/IllegalArgumentException", .initialized "java/lang/IllegalArgumentException", .methodLink RX0 64 yX0_resetEstimate, .instanceMethod yX0_resetEstimate, .selects RX0 yX0_resetEstimate yX0_resetEstimate, .code yX0_resetEstimate cX0_resetEstimate 3 none, .fieldLink RX0 19 "TurnEstimator" "estimates" "[D", .fieldLink RX0 16 "TurnEstimator" "weights" "[I", .fieldLink RX0 95 "TurnEstimator" "roundCount" "I", .methodLink RX0 57 yX0_turn, .static yX0_turn, .code yX0_turn cX0_turn 2 (some .int)] ++ wsX00 ++ (vx_atM "java/lang/ArrayIndexOutOfBoundsException" ["java/lang/IndexOutOfBoundsException", "java/lang/RuntimeException", "java/lang/Exception"]).filter goodWord ++ (vx_atS RX0 156 "java/lang/IndexOutOfBoundsException" ["java/lang/RuntimeException", "java/lang/Exception"]).filter goodWord ++ (vx_atS RX0 161 "java/lang/IllegalArgumentException" ["java/lang/RuntimeException", "java/lang/Exception"]).filter goodWord)
def wsX0_setInflow_r1 : List Cond := [Cond.fieldLink RX0 9 "TurnEstimator" "inflows" "[I", Cond.methodLink RX0 50 yX0_setCount, Cond.instanceMethod yX0_setCount, Cond.selects RX0 yX0_setCount yX0_setCount, Cond.initialized RX0, Cond.code yX0_setCount cX0_setCount 5 (some .int), Cond.methodLink RX0 54 yX0_requireArm, Cond.instanceMethod yX0_requireArm, Cond.selects RX0 yX0_requireArm yX0_requireArm, Cond.code yX0_requireArm cX0_requireArm 2 none, Cond.classLink RX0 152 "java/lang/IndexOutOfBoundsException", Cond.initialized "java/lang/IndexOutOfBoundsException", Cond.fieldLink RX0 46 "TurnEstimator" "armCount" "I", Cond.methodLink RX0 42 yX0_requireWithin, Cond.static yX0_requireWithin, Cond.code yX0_requireWithin cX0_requireWithin 3 none, Cond.classLink RX0 157 "java/lang/IllegalArgumentException", Cond.initialized "java/lang/IllegalArgumentException", Cond.methodLink RX0 64 yX0_resetEstimate, Cond.instanceMethod yX0_resetEstimate, Cond.selects RX0 yX0_resetEstimate yX0_resetEstimate, Cond.code yX0_resetEstimate cX0_resetEstimate 3 none, Cond.fieldLink RX0 19 "TurnEstimator" "estimates" "[D", Cond.fieldLink RX0 16 "TurnEstimator" "weights" "[I"]
def wsX0_setInflow_r2 : List Cond := [Cond.fieldLink RX0 95 "TurnEstimator" "roundCount" "I", Cond.methodLink RX0 57 yX0_turn, Cond.static yX0_turn, Cond.code yX0_turn cX0_turn 2 (some .int)]
def wsX0_setInflow : List Cond := .code yX0_setInflow cX0_setInflow 3 (some .int) :: ((wsX0_setInflow_r1 ++ wsX0_setInflow_r2) ++ wsX00 ++ (vx_atM "java/lang/ArrayIndexOutOfBoundsException" ["java/lang/IndexOutOfBoundsException", "java/lang/RuntimeException", "java/lang/Exception"]).filter goodWord ++ (vx_atS RX0 156 "java/lang/IndexOutOfBoundsException" ["java/lang/RuntimeException", "java/lang/Exception"]).filter goodWord ++ (vx_atS RX0 161 "java/lang/IllegalArgumentException" ["java/lang/RuntimeException", "java/lang/Exception"]).filter goodWord)
def wsX0_setOutflow_r1 : List Cond := [Cond.fieldLink RX0 13 "TurnEstimator" "outflows" "[I", Cond.methodLink RX0 50 yX0_setCount, Cond.instanceMethod yX0_setCount, Cond.selects RX0 yX0_setCount yX0_setCount, Cond.initialized RX0, Cond.code yX0_setCount cX0_setCount 5 (some .int), Cond.methodLink RX0 54 yX0_requireArm, Cond.instanceMethod yX0_requireArm, Cond.selects RX0 yX0_requireArm yX0_requireArm, Cond.code yX0_requireArm cX0_requireArm 2 none, Cond.classLink RX0 152 "java/lang/IndexOutOfBoundsException", Cond.initialized "java/lang/IndexOutOfBoundsException", Cond.fieldLink RX0 46 "TurnEstimator" "armCount" "I", Cond.methodLink RX0 42 yX0_requireWithin, Cond.static yX0_requireWithin, Cond.code yX0_requireWithin cX0_requireWithin 3 none, Cond.classLink RX0 157 "java/lang/IllegalArgumentException", Cond.initialized "java/lang/IllegalArgumentException", Cond.methodLink RX0 64 yX0_resetEstimate, Cond.instanceMethod yX0_resetEstimate, Cond.selects RX0 yX0_resetEstimate yX0_resetEstimate, Cond.code yX0_resetEstimate cX0_resetEstimate 3 none, Cond.fieldLink RX0 19 "TurnEstimator" "estimates" "[D", Cond.fieldLink RX0 16 "TurnEstimator" "weights" "[I"]
def wsX0_setOutflow_r2 : List Cond := [Cond.fieldLink RX0 95 "TurnEstimator" "roundCount" "I", Cond.methodLink RX0 57 yX0_turn, Cond.static yX0_turn, Cond.code yX0_turn cX0_turn 2 (some .int)]
def wsX0_setOutflow : List Cond := .code yX0_setOutflow cX0_setOutflow 3 (some .int) :: ((wsX0_setOutflow_r1 ++ wsX0_setOutflow_r2) ++ wsX00 ++ (vx_atM "java/lang/ArrayIndexOutOfBoundsException" ["java/lang/IndexOutOfBoundsException", "java/lang/RuntimeException", "java/lang/Exception"]).filter goodWord ++ (vx_atS RX0 156 "java/lang/IndexOutOfBoundsException" ["java/lang/RuntimeException", "java/lang/Exception"]).filter goodWord ++ (vx_atS RX0 161 "java/lang/IllegalArgumentException" ["java/lang/RuntimeException", "java/lang/Exception"]).filter goodWord)
def wsX0_setWeight_r1 : List Cond := [Cond.fieldLink RX0 16 "TurnEstimator" "weights" "[I", Cond.methodLink RX0 54 yX0_requireArm, Cond.instanceMethod yX0_requireArm, Cond.selects RX0 yX0_requireArm yX0_requireArm, Cond.initialized RX0, Cond.code yX0_requireArm cX0_requireArm 2 none, Cond.classLink RX0 152 "java/lang/IndexOutOfBoundsException", Cond.initialized "java/lang/IndexOutOfBoundsException", Cond.fieldLink RX0 46 "TurnEstimator" "armCount" "I", Cond.methodLink RX0 42 yX0_requireWithin, Cond.static yX0_requireWithin, Cond.code yX0_requireWithin cX0_requireWithin 3 none, Cond.classLink RX0 157 "java/lang/IllegalArgumentException", Cond.initialized "java/lang/IllegalArgumentException", Cond.methodLink RX0 57 yX0_turn, Cond.static yX0_turn, Cond.code yX0_turn cX0_turn 2 (some .int), Cond.methodLink RX0 61 yX0_putWeight, Cond.instanceMethod yX0_putWeight, Cond.selects RX0 yX0_putWeight yX0_putWeight, Cond.code yX0_putWeight cX0_putWeight 4 none, Cond.fieldLink RX0 23 "TurnEstimator" "targets" "[I", Cond.methodLink RX0 64 yX0_resetEstimate, Cond.instanceMethod yX0_resetEstimate]
def wsX0_setWeight_r2 : List Cond := [Cond.selects RX0 yX0_resetEstimate yX0_resetEstimate, Cond.code yX0_resetEstimate cX0_resetEstimate 3 none, Cond.fieldLink RX0 19 "TurnEstimator" "estimates" "[D", Cond.fieldLink RX0 95 "TurnEstimator" "roundCount" "I"]
def wsX0_setWeight : List Cond := .code yX0_setWeight cX0_setWeight 5 (some .int) :: ((wsX0_setWeight_r1 ++ wsX0_setWeight_r2) ++ wsX00 ++ (vx_atM "java/lang/ArrayIndexOutOfBoundsException" ["java/lang/IndexOutOfBoundsException", "java/lang/RuntimeException", "java/lang/Exception"]).filter goodWord ++ (vx_atS RX0 156 "java/lang/IndexOutOfBoundsException" ["java/lang/RuntimeException", "java/lang/Exception"]).filter goodWord ++ (vx_atS RX0 161 "java/lang/IllegalArgumentException" ["java/lang/RuntimeException", "java/lang/Exception"]).filter goodWord)
def wsX0_scaled : List Cond := .code yX0_scaled cX0_scaled 2 (some .int) :: ([])
def wsX0_requireScalable : List Cond := .code yX0_requireScalable cX0_requireScalable 2 none :: ([.classLink RX0 162 "java/lang/IllegalStateException", .initialized "java/lang/IllegalStateException", .methodLink RX0 71 yX0_scaled, .static yX0_scaled, .initialized RX0, .code yX0_scaled cX0_scaled 2 (some .int)] ++ (vx_atS RX0 166 "java/lang/IllegalStateException" ["java/lang/RuntimeException", "java/lang/Exception"]).filter goodWord)
def wsX0_total : List Cond := .code yX0_total cX0_total 4 (some .int) :: ([.fieldLink RX0 46 "TurnEstimator" "armCount" "I"] ++ wsX00 ++ (vx_atM "java/lang/ArrayIndexOutOfBoundsException" ["java/lang/IndexOutOfBoundsException", "java/lang/RuntimeException", "java/lang/Exception"]).filter goodWord)
def wsX0_scale_r1 : List Cond := [Cond.fieldLink RX0 46 "TurnEstimator" "armCount" "I", Cond.fieldLink RX0 9 "TurnEstimator" "inflows" "[I", Cond.fieldLink RX0 13 "TurnEstimator" "outflows" "[I", Cond.methodLink RX0 42 yX0_requireWithin, Cond.static yX0_requireWithin, Cond.initialized RX0, Cond.code yX0_requireWithin cX0_requireWithin 3 none, Cond.classLink RX0 157 "java/lang/IllegalArgumentException", Cond.initialized "java/lang/IllegalArgumentException", Cond.methodLink RX0 67 yX0_requireScalable, Cond.static yX0_requireScalable, Cond.code yX0_requireScalable cX0_requireScalable 2 none, Cond.classLink RX0 162 "java/lang/IllegalStateException", Cond.initialized "java/lang/IllegalStateException", Cond.methodLink RX0 71 yX0_scaled, Cond.static yX0_scaled, Cond.code yX0_scaled cX0_scaled 2 (some .int), Cond.methodLink RX0 64 yX0_resetEstimate, Cond.instanceMethod yX0_resetEstimate, Cond.selects RX0 yX0_resetEstimate yX0_resetEstimate, Cond.code yX0_resetEstimate cX0_resetEstimate 3 none, Cond.fieldLink RX0 19 "TurnEstimator" "estimates" "[D", Cond.fieldLink RX0 16 "TurnEstimator" "weights" "[I", Cond.fieldLink RX0 95 "TurnEstimator" "roundCount" "I"]
def wsX0_scale_r2 : List Cond := [Cond.methodLink RX0 57 yX0_turn, Cond.static yX0_turn, Cond.code yX0_turn cX0_turn 2 (some .int), Cond.methodLink RX0 74 yX0_total, Cond.instanceMethod yX0_total, Cond.selects RX0 yX0_total yX0_total, Cond.code yX0_total cX0_total 4 (some .int)]
def wsX0_scale : List Cond := .code yX0_scale cX0_scale 3 (some .int) :: ((wsX0_scale_r1 ++ wsX0_scale_r2) ++ wsX00 ++ (vx_atM "java/lang/ArrayIndexOutOfBoundsException" ["java/lang/IndexOutOfBoundsException", "java/lang/RuntimeException", "java/lang/Exception"]).filter goodWord ++ (vx_atS RX0 161 "java/lang/IllegalArgumentException" ["java/lang/RuntimeException", "java/lang/Exception"]).filter goodWord ++ (vx_atS RX0 166 "java/lang/IllegalStateException" ["java/lang/RuntimeException", "java/lang/Exception"]).filter goodWord)
def wsX0_imbalance : List Cond := .code yX0_imbalance cX0_imbalance 1 (some .int) :: ([.fieldLink RX0 9 "TurnEstimator" "inflows" "[I", .fieldLink RX0 13 "TurnEstimator" "outflows" "[I", .methodLink RX0 74 yX0_total, .instanceMethod yX0_total, .selects RX0 yX0_total yX0_total, .initialized RX0, .code yX0_total cX0_total 4 (some .int), .fieldLink RX0 46 "TurnEstimator" "armCount" "I"] ++ wsX00 ++ (vx_atM "java/lang/ArrayIndexOutOfBoundsException" ["java/lang/IndexOutOfBoundsException", "java/lang/RuntimeException", "java/lang/Exception"]).filter goodWord)
def wsX0_allArms : List Cond := .code yX0_allArms cX0_allArms 1 (some .int) :: ([.fieldLink RX0 46 "TurnEstimator" "armCount" "I"] ++ wsX00)
def wsX0_contains : List Cond := .code yX0_contains cX0_contains 2 (some .boolean) :: ([])
def wsX0_reachedFrom : List Cond := .code yX0_reachedFrom cX0_reachedFrom 4 (some .int) :: ([.fieldLink RX0 46 "TurnEstimator" "armCount" "I", .fieldLink RX0 23 "TurnEstimator" "targets" "[I", .methodLink RX0 167 yX0_contains, .static yX0_contains, .initialized RX0, .code yX0_contains cX0_contains 2 (some .boolean)] ++ wsX00 ++ (vx_atM "java/lang/ArrayIndexOutOfBoundsException" ["java/lang/IndexOutOfBoundsException", "java/lang/RuntimeException", "java/lang/Exception"]).filter goodWord)
def wsX0_excessOver : List Cond := .code yX0_excessOver cX0_excessOver 6 (some .int) :: ([.fieldLink RX0 46 "TurnEstimator" "armCount" "I", .fieldLink RX0 9 "TurnEstimator" "inflows" "[I", .methodLink RX0 171 yX0_reachedFrom, .instanceMethod yX0_reachedFrom, .selects RX0 yX0_reachedFrom yX0_reachedFrom, .initialized RX0, .code yX0_reachedFrom cX0_reachedFrom 4 (some .int), .fieldLink RX0 23 "TurnEstimator" "targets" "[I", .methodLink RX0 167 yX0_contains, .static yX0_contains, .code yX0_contains cX0_contains 2 (some .boolean)] ++ wsX00 ++ (vx_atM "java/lang/ArrayIndexOutOfBoundsException" ["java/lang/IndexOutOfBoundsException", "java/lang/RuntimeException", "java/lang/Exception"]).filter goodWord)
def wsX0_crowdedSet : List Cond := .code yX0_crowdedSet cX0_crowdedSet 2 (some .int) :: ([.fieldLink RX0 13 "TurnEstimator" "outflows" "[I", .methodLink RX0 85 yX0_allArms, .instanceMethod yX0_allArms, .selects RX0 yX0_allArms yX0_allArms, .initialized RX0, .code yX0_allArms cX0_allArms 1 (some .int), .fieldLink RX0 46 "TurnEstimator" "armCount" "I", .methodLink RX0 88 yX0_excessOver, .instanceMethod yX0_excessOver, .selects RX0 yX0_excessOver yX0_excessOver, .code yX0_excessOver cX0_excessOver 6 (some .int), .fieldLink RX0 9 "TurnEstimator" "inflows" "[I", .methodLink RX0 171 yX0_reachedFrom, .instanceMethod yX0_reachedFrom, .selects RX0 yX0_reachedFrom yX0_reachedFrom, .code yX0_reachedFrom cX0_reachedFrom 4 (some .int), .fieldLink RX0 23 "TurnEstimator" "targets" "[I", .methodLink RX0 167 yX0_contains, .static yX0_contains, .code yX0_contains cX0_contains 2 (some .boolean)] ++ wsX00 ++ (vx_atM "java/lang/ArrayIndexOutOfBoundsException" ["java/lang/IndexOutOfBoundsException", "java/lang/RuntimeException", "java/lang/Exception"]).filter goodWord)
def wsX0_isPossible_r1 : List Cond := [Cond.methodLink RX0 78 yX0_imbalance, Cond.instanceMethod yX0_imbalance, Cond.selects RX0 yX0_imbalance yX0_imbalance, Cond.initialized RX0, Cond.code yX0_imbalance cX0_imbalance 1 (some .int), Cond.fieldLink RX0 9 "TurnEstimator" "inflows" "[I", Cond.fieldLink RX0 13 "TurnEstimator" "outflows" "[I", Cond.methodLink RX0 74 yX0_total, Cond.instanceMethod yX0_total, Cond.selects RX0 yX0_total yX0_total, Cond.code yX0_total cX0_total 4 (some .int), Cond.fieldLink RX0 46 "TurnEstimator" "armCount" "I", Cond.methodLink RX0 82 yX0_crowdedSet, Cond.instanceMethod yX0_crowdedSet, Cond.selects RX0 yX0_crowdedSet yX0_crowdedSet, Cond.code yX0_crowdedSet cX0_crowdedSet 2 (some .int), Cond.methodLink RX0 85 yX0_allArms, Cond.instanceMethod yX0_allArms, Cond.selects RX0 yX0_allArms yX0_allArms, Cond.code yX0_allArms cX0_allArms 1 (some .int), Cond.methodLink RX0 88 yX0_excessOver, Cond.instanceMethod yX0_excessOver, Cond.selects RX0 yX0_excessOver yX0_excessOver, Cond.code yX0_excessOver cX0_excessOver 6 (some .int)]
def wsX0_isPossible_r2 : List Cond := [Cond.methodLink RX0 171 yX0_reachedFrom, Cond.instanceMethod yX0_reachedFrom, Cond.selects RX0 yX0_reachedFrom yX0_reachedFrom, Cond.code yX0_reachedFrom cX0_reachedFrom 4 (some .int), Cond.fieldLink RX0 23 "TurnEstimator" "targets" "[I", Cond.methodLink RX0 167 yX0_contains, Cond.static yX0_contains, Cond.code yX0_contains cX0_contains 2 (some .boolean)]
def wsX0_isPossible : List Cond := .code yX0_isPossible cX0_isPossible 1 (some .boolean) :: ((wsX0_isPossible_r1 ++ wsX0_isPossible_r2) ++ wsX00 ++ (vx_atM "java/lang/ArrayIndexOutOfBoundsException" ["java/lang/IndexOutOfBoundsException", "java/lang/RuntimeException", "java/lang/Exception"]).filter goodWord)
def wsX0_excess_r1 : List Cond := [Cond.fieldLink RX0 13 "TurnEstimator" "outflows" "[I", Cond.methodLink RX0 85 yX0_allArms, Cond.instanceMethod yX0_allArms, Cond.selects RX0 yX0_allArms yX0_allArms, Cond.initialized RX0, Cond.code yX0_allArms cX0_allArms 1 (some .int), Cond.fieldLink RX0 46 "TurnEstimator" "armCount" "I", Cond.methodLink RX0 42 yX0_requireWithin, Cond.static yX0_requireWithin, Cond.code yX0_requireWithin cX0_requireWithin 3 none, Cond.classLink RX0 157 "java/lang/IllegalArgumentException", Cond.initialized "java/lang/IllegalArgumentException", Cond.methodLink RX0 88 yX0_excessOver, Cond.instanceMethod yX0_excessOver, Cond.selects RX0 yX0_excessOver yX0_excessOver, Cond.code yX0_excessOver cX0_excessOver 6 (some .int), Cond.fieldLink RX0 9 "TurnEstimator" "inflows" "[I", Cond.methodLink RX0 171 yX0_reachedFrom, Cond.instanceMethod yX0_reachedFrom, Cond.selects RX0 yX0_reachedFrom yX0_reachedFrom, Cond.code yX0_reachedFrom cX0_reachedFrom 4 (some .int), Cond.fieldLink RX0 23 "TurnEstimator" "targets" "[I", Cond.methodLink RX0 167 yX0_contains, Cond.static yX0_contains]
def wsX0_excess_r2 : List Cond := [Cond.code yX0_contains cX0_contains 2 (some .boolean)]
def wsX0_excess : List Cond := .code yX0_excess cX0_excess 2 (some .int) :: ((wsX0_excess_r1 ++ wsX0_excess_r2) ++ wsX00 ++ (vx_atS RX0 161 "java/lang/IllegalArgumentException" ["java/lang/RuntimeException", "java/lang/Exception"]).filter goodWord ++ (vx_atM "java/lang/ArrayIndexOutOfBoundsException" ["java/lang/IndexOutOfBoundsException", "java/lang/RuntimeException", "java/lang/Exception"]).filter goodWord)
def wsX0_rowSum : List Cond := .code yX0_rowSum cX0_rowSum 5 (some .double) :: ([.fieldLink RX0 46 "TurnEstimator" "armCount" "I", .fieldLink RX0 19 "TurnEstimator" "estimates" "[D", .methodLink RX0 57 yX0_turn, .static yX0_turn, .initialized RX0, .code yX0_turn cX0_turn 2 (some .int)] ++ wsX00 ++ (vx_atM "java/lang/ArrayIndexOutOfBoundsException" ["java/lang/IndexOutOfBoundsException", "java/lang/RuntimeException", "java/lang/Exception"]).filter goodWord)
def wsX0_carryOutRowStep : List Cond := .code yX0_carryOutRowStep cX0_carryOutRowStep 7 none :: ([.fieldLink RX0 9 "TurnEstimator" "inflows" "[I", .fieldLink RX0 46 "TurnEstimator" "armCount" "I", .fieldLink RX0 19 "TurnEstimator" "estimates" "[D", .methodLink RX0 109 yX0_rowSum, .instanceMethod yX0_rowSum, .selects RX0 yX0_rowSum yX0_rowSum, .initialized RX0, .code yX0_rowSum cX0_rowSum 5 (some .double), .methodLink RX0 57 yX0_turn, .static yX0_turn, .code yX0_turn cX0_turn 2 (some .int)] ++ wsX00 ++ (vx_atM "java/lang/ArrayIndexOutOfBoundsException" ["java/lang/IndexOutOfBoundsException", "java/lang/RuntimeException", "java/lang/Exception"]).filter goodWord)
def wsX0_columnSum : List Cond := .code yX0_columnSum cX0_columnSum 5 (some .double) :: ([.fieldLink RX0 46 "TurnEstimator" "armCount" "I", .fieldLink RX0 19 "TurnEstimator" "estimates" "[D", .methodLink RX0 57 yX0_turn, .static yX0_turn, .initialized RX0, .code yX0_turn cX0_turn 2 (some .int)] ++ wsX00 ++ (vx_atM "java/lang/ArrayIndexOutOfBoundsException" ["java/lang/IndexOutOfBoundsException", "java/lang/RuntimeException", "java/lang/Exception"]).filter goodWord)
def wsX0_carryOutColumnStep : List Cond := .code yX0_carryOutColumnStep cX0_carryOutColumnStep 7 none :: ([.fieldLink RX0 13 "TurnEstimator" "outflows" "[I", .fieldLink RX0 46 "TurnEstimator" "armCount" "I", .fieldLink RX0 19 "TurnEstimator" "estimates" "[D", .methodLink RX0 105 yX0_columnSum, .instanceMethod yX0_columnSum, .selects RX0 yX0_columnSum yX0_columnSum, .initialized RX0, .code yX0_columnSum cX0_columnSum 5 (some .double), .methodLink RX0 57 yX0_turn, .static yX0_turn, .code yX0_turn cX0_turn 2 (some .int)] ++ wsX00 ++ (vx_atM "java/lang/ArrayIndexOutOfBoundsException" ["java/lang/IndexOutOfBoundsException", "java/lang/RuntimeException", "java/lang/Exception"]).filter goodWord)
def wsX0_carryOutRound_r1 : List Cond := [Cond.fieldLink RX0 46 "TurnEstimator" "armCount" "I", Cond.fieldLink RX0 95 "TurnEstimator" "roundCount" "I", Cond.methodLink RX0 197 yX0_carryOutRowStep, Cond.instanceMethod yX0_carryOutRowStep, Cond.selects RX0 yX0_carryOutRowStep yX0_carryOutRowStep, Cond.initialized RX0, Cond.code yX0_carryOutRowStep cX0_carryOutRowStep 7 none, Cond.fieldLink RX0 9 "TurnEstimator" "inflows" "[I", Cond.fieldLink RX0 19 "TurnEstimator" "estimates" "[D", Cond.methodLink RX0 109 yX0_rowSum, Cond.instanceMethod yX0_rowSum, Cond.selects RX0 yX0_rowSum yX0_rowSum, Cond.code yX0_rowSum cX0_rowSum 5 (some .double), Cond.methodLink RX0 57 yX0_turn, Cond.static yX0_turn, Cond.code yX0_turn cX0_turn 2 (some .int), Cond.methodLink RX0 200 yX0_carryOutColumnStep, Cond.instanceMethod yX0_carryOutColumnStep, Cond.selects RX0 yX0_carryOutColumnStep yX0_carryOutColumnStep, Cond.code yX0_carryOutColumnStep cX0_carryOutColumnStep 7 none, Cond.fieldLink RX0 13 "TurnEstimator" "outflows" "[I", Cond.methodLink RX0 105 yX0_columnSum, Cond.instanceMethod yX0_columnSum, Cond.selects RX0 yX0_columnSum yX0_columnSum]
def wsX0_carryOutRound_r2 : List Cond := [Cond.code yX0_columnSum cX0_columnSum 5 (some .double)]
def wsX0_carryOutRound : List Cond := .code yX0_carryOutRound cX0_carryOutRound 2 none :: ((wsX0_carryOutRound_r1 ++ wsX0_carryOutRound_r2) ++ wsX00 ++ (vx_atM "java/lang/ArrayIndexOutOfBoundsException" ["java/lang/IndexOutOfBoundsException", "java/lang/RuntimeException", "java/lang/Exception"]).filter goodWord)
def wsX0_iterate_r1 : List Cond := [Cond.fieldLink RX0 95 "TurnEstimator" "roundCount" "I", Cond.methodLink RX0 42 yX0_requireWithin, Cond.static yX0_requireWithin, Cond.initialized RX0, Cond.code yX0_requireWithin cX0_requireWithin 3 none, Cond.classLink RX0 157 "java/lang/IllegalArgumentException", Cond.initialized "java/lang/IllegalArgumentException", Cond.methodLink RX0 92 yX0_carryOutRound, Cond.instanceMethod yX0_carryOutRound, Cond.selects RX0 yX0_carryOutRound yX0_carryOutRound, Cond.code yX0_carryOutRound cX0_carryOutRound 2 none, Cond.fieldLink RX0 46 "TurnEstimator" "armCount" "I", Cond.methodLink RX0 197 yX0_carryOutRowStep, Cond.instanceMethod yX0_carryOutRowStep, Cond.selects RX0 yX0_carryOutRowStep yX0_carryOutRowStep, Cond.code yX0_carryOutRowStep cX0_carryOutRowStep 7 none, Cond.fieldLink RX0 9 "TurnEstimator" "inflows" "[I", Cond.fieldLink RX0 19 "TurnEstimator" "estimates" "[D", Cond.methodLink RX0 109 yX0_rowSum, Cond.instanceMethod yX0_rowSum, Cond.selects RX0 yX0_rowSum yX0_rowSum, Cond.code yX0_rowSum cX0_rowSum 5 (some .double), Cond.methodLink RX0 57 yX0_turn, Cond.static yX0_turn]
def wsX0_iterate_r2 : List Cond := [Cond.code yX0_turn cX0_turn 2 (some .int), Cond.methodLink RX0 200 yX0_carryOutColumnStep, Cond.instanceMethod yX0_carryOutColumnStep, Cond.selects RX0 yX0_carryOutColumnStep yX0_carryOutColumnStep, Cond.code yX0_carryOutColumnStep cX0_carryOutColumnStep 7 none, Cond.fieldLink RX0 13 "TurnEstimator" "outflows" "[I", Cond.methodLink RX0 105 yX0_columnSum, Cond.instanceMethod yX0_columnSum, Cond.selects RX0 yX0_columnSum yX0_columnSum, Cond.code yX0_columnSum cX0_columnSum 5 (some .double)]
def wsX0_iterate : List Cond := .code yX0_iterate cX0_iterate 3 (some .int) :: ((wsX0_iterate_r1 ++ wsX0_iterate_r2) ++ wsX00 ++ (vx_atS RX0 161 "java/lang/IllegalArgumentException" ["java/lang/RuntimeException", "java/lang/Exception"]).filter goodWord ++ (vx_atM "java/lang/ArrayIndexOutOfBoundsException" ["java/lang/IndexOutOfBoundsException", "java/lang/RuntimeException", "java/lang/Exception"]).filter goodWord)
def wsX0_distance : List Cond := .code yX0_distance cX0_distance 6 (some .double) :: ([])
def wsX0_misfit : List Cond := .code yX0_misfit cX0_misfit 8 (some .double) :: ([.fieldLink RX0 46 "TurnEstimator" "armCount" "I", .fieldLink RX0 9 "TurnEstimator" "inflows" "[I", .fieldLink RX0 13 "TurnEstimator" "outflows" "[I", .methodLink RX0 109 yX0_rowSum, .instanceMethod yX0_rowSum, .selects RX0 yX0_rowSum yX0_rowSum, .initialized RX0, .code yX0_rowSum cX0_rowSum 5 (some .double), .fieldLink RX0 19 "TurnEstimator" "estimates" "[D", .methodLink RX0 57 yX0_turn, .static yX0_turn, .code yX0_turn cX0_turn 2 (some .int), .methodLink RX0 112 yX0_distance, .static yX0_distance, .code yX0_distance cX0_distance 6 (some .double), .methodLink RX0 105 yX0_columnSum, .instanceMethod yX0_columnSum, .selects RX0 yX0_columnSum yX0_columnSum, .code yX0_columnSum cX0_columnSum 5 (some .double)] ++ wsX00 ++ (vx_atM "java/lang/ArrayIndexOutOfBoundsException" ["java/lang/IndexOutOfBoundsException", "java/lang/RuntimeException", "java/lang/Exception"]).filter goodWord)
def wsX0_fit_r1 : List Cond := [Cond.constant RX0 98 (100000), Cond.constantDouble RX0 99 (4652007308841189376), Cond.methodLink RX0 42 yX0_requireWithin, Cond.static yX0_requireWithin, Cond.initialized RX0, Cond.code yX0_requireWithin cX0_requireWithin 3 none, Cond.classLink RX0 157 "java/lang/IllegalArgumentException", Cond.initialized "java/lang/IllegalArgumentException", Cond.methodLink RX0 101 yX0_misfit, Cond.instanceMethod yX0_misfit, Cond.selects RX0 yX0_misfit yX0_misfit, Cond.code yX0_misfit cX0_misfit 8 (some .double), Cond.fieldLink RX0 46 "TurnEstimator" "armCount" "I", Cond.fieldLink RX0 9 "TurnEstimator" "inflows" "[I", Cond.fieldLink RX0 13 "TurnEstimator" "outflows" "[I", Cond.methodLink RX0 109 yX0_rowSum, Cond.instanceMethod yX0_rowSum, Cond.selects RX0 yX0_rowSum yX0_rowSum, Cond.code yX0_rowSum cX0_rowSum 5 (some .double), Cond.fieldLink RX0 19 "TurnEstimator" "estimates" "[D", Cond.methodLink RX0 57 yX0_turn, Cond.static yX0_turn, Cond.code yX0_turn cX0_turn 2 (some .int), Cond.methodLink RX0 112 yX0_distance]
def wsX0_fit_r2 : List Cond := [Cond.static yX0_distance, Cond.code yX0_distance cX0_distance 6 (some .double), Cond.methodLink RX0 105 yX0_columnSum, Cond.instanceMethod yX0_columnSum, Cond.selects RX0 yX0_columnSum yX0_columnSum, Cond.code yX0_columnSum cX0_columnSum 5 (some .double), Cond.methodLink RX0 92 yX0_carryOutRound, Cond.instanceMethod yX0_carryOutRound, Cond.selects RX0 yX0_carryOutRound yX0_carryOutRound, Cond.code yX0_carryOutRound cX0_carryOutRound 2 none, Cond.fieldLink RX0 95 "TurnEstimator" "roundCount" "I", Cond.methodLink RX0 197 yX0_carryOutRowStep, Cond.instanceMethod yX0_carryOutRowStep, Cond.selects RX0 yX0_carryOutRowStep yX0_carryOutRowStep, Cond.code yX0_carryOutRowStep cX0_carryOutRowStep 7 none, Cond.methodLink RX0 200 yX0_carryOutColumnStep, Cond.instanceMethod yX0_carryOutColumnStep, Cond.selects RX0 yX0_carryOutColumnStep yX0_carryOutColumnStep, Cond.code yX0_carryOutColumnStep cX0_carryOutColumnStep 7 none]
def wsX0_fit : List Cond := .code yX0_fit cX0_fit 6 (some .int) :: ((wsX0_fit_r1 ++ wsX0_fit_r2) ++ wsX00 ++ (vx_atS RX0 161 "java/lang/IllegalArgumentException" ["java/lang/RuntimeException", "java/lang/Exception"]).filter goodWord ++ (vx_atM "java/lang/ArrayIndexOutOfBoundsException" ["java/lang/IndexOutOfBoundsException", "java/lang/RuntimeException", "java/lang/Exception"]).filter goodWord)
def wsX0_reset : List Cond := .code yX0_reset cX0_reset 2 (some .int) :: ([.fieldLink RX0 95 "TurnEstimator" "roundCount" "I", .methodLink RX0 64 yX0_resetEstimate, .instanceMethod yX0_resetEstimate, .selects RX0 yX0_resetEstimate yX0_resetEstimate, .initialized RX0, .code yX0_resetEstimate cX0_resetEstimate 3 none, .fieldLink RX0 46 "TurnEstimator" "armCount" "I", .fieldLink RX0 19 "TurnEstimator" "estimates" "[D", .fieldLink RX0 16 "TurnEstimator" "weights" "[I", .methodLink RX0 57 yX0_turn, .static yX0_turn, .code yX0_turn cX0_turn 2 (some .int)] ++ wsX00 ++ (vx_atM "java/lang/ArrayIndexOutOfBoundsException" ["java/lang/IndexOutOfBoundsException", "java/lang/RuntimeException", "java/lang/Exception"]).filter goodWord)
def wsX0_rounds : List Cond := .code yX0_rounds cX0_rounds 1 (some .int) :: ([.fieldLink RX0 95 "TurnEstimator" "roundCount" "I"] ++ wsX00)
def wsX0_estimate : List Cond := .code yX0_estimate cX0_estimate 3 (some .double) :: ([.fieldLink RX0 19 "TurnEstimator" "estimates" "[D", .methodLink RX0 54 yX0_requireArm, .instanceMethod yX0_requireArm, .selects RX0 yX0_requireArm yX0_requireArm, .initialized RX0, .code yX0_requireArm cX0_requireArm 2 none, .classLink RX0 152 "java/lang/IndexOutOfBoundsException", .initialized "java/lang/IndexOutOfBoundsException", .fieldLink RX0 46 "TurnEstimator" "armCount" "I", .methodLink RX0 57 yX0_turn, .static yX0_turn, .code yX0_turn cX0_turn 2 (some .int)] ++ wsX00 ++ (vx_atM "java/lang/ArrayIndexOutOfBoundsException" ["java/lang/IndexOutOfBoundsException", "java/lang/RuntimeException", "java/lang/Exception"]).filter goodWord ++ (vx_atS RX0 156 "java/lang/IndexOutOfBoundsException" ["java/lang/RuntimeException", "java/lang/Exception"]).filter goodWord)
def wsX0_sum : List Cond := .code yX0_sum cX0_sum 3 (some .double) :: ([.methodLink RX0 54 yX0_requireArm, .instanceMethod yX0_requireArm, .selects RX0 yX0_requireArm yX0_requireArm, .initialized RX0, .code yX0_requireArm cX0_requireArm 2 none, .classLink RX0 152 "java/lang/IndexOutOfBoundsException", .initialized "java/lang/IndexOutOfBoundsException", .fieldLink RX0 46 "TurnEstimator" "armCount" "I", .methodLink RX0 105 yX0_columnSum, .instanceMethod yX0_columnSum, .selects RX0 yX0_columnSum yX0_columnSum, .code yX0_columnSum cX0_columnSum 5 (some .double), .fieldLink RX0 19 "TurnEstimator" "estimates" "[D", .methodLink RX0 57 yX0_turn, .static yX0_turn, .code yX0_turn cX0_turn 2 (some .int), .methodLink RX0 109 yX0_rowSum, .instanceMethod yX0_rowSum, .selects RX0 yX0_rowSum yX0_rowSum, .code yX0_rowSum cX0_rowSum 5 (some .double)] ++ wsX00 ++ (vx_atS RX0 156 "java/lang/IndexOutOfBoundsException" ["java/lang/RuntimeException", "java/lang/Exception"]).filter goodWord ++ (vx_atM "java/lang/ArrayIndexOutOfBoundsException" ["java/lang/IndexOutOfBoundsException", "java/lang/RuntimeException", "java/lang/Exception"]).filter goodWord)
def wsX0_share : List Cond := .code yX0_share cX0_share 5 (some .double) :: ([.fieldLink RX0 19 "TurnEstimator" "estimates" "[D", .methodLink RX0 54 yX0_requireArm, .instanceMethod yX0_requireArm, .selects RX0 yX0_requireArm yX0_requireArm, .initialized RX0, .code yX0_requireArm cX0_requireArm 2 none, .classLink RX0 152 "java/lang/IndexOutOfBoundsException", .initialized "java/lang/IndexOutOfBoundsException", .fieldLink RX0 46 "TurnEstimator" "armCount" "I", .methodLink RX0 109 yX0_rowSum, .instanceMethod yX0_rowSum, .selects RX0 yX0_rowSum yX0_rowSum, .code yX0_rowSum cX0_rowSum 5 (some .double), .methodLink RX0 57 yX0_turn, .static yX0_turn, .code yX0_turn cX0_turn 2 (some .int)] ++ wsX00 ++ (vx_atM "java/lang/ArrayIndexOutOfBoundsException" ["java/lang/IndexOutOfBoundsException", "java/lang/RuntimeException", "java/lang/Exception"]).filter goodWord ++ (vx_atS RX0 156 "java/lang/IndexOutOfBoundsException" ["java/lang/RuntimeException", "java/lang/Exception"]).filter goodWord)
def wsX0_crossRatio : List Cond := .code yX0_crossRatio cX0_crossRatio 9 (some .double) :: ([.classLink RX0 116 "java/lang/ArithmeticException", .initialized "java/lang/ArithmeticException", .fieldLink RX0 19 "TurnEstimator" "estimates" "[D", .methodLink RX0 54 yX0_requireArm, .instanceMethod yX0_requireArm, .selects RX0 yX0_requireArm yX0_requireArm, .initialized RX0, .code yX0_requireArm cX0_requireArm 2 none, .classLink RX0 152 "java/lang/IndexOutOfBoundsException", .initialized "java/lang/IndexOutOfBoundsException", .fieldLink RX0 46 "TurnEstimator" "armCount" "I", .methodLink RX0 57 yX0_turn, .static yX0_turn, .code yX0_turn cX0_turn 2 (some .int)] ++ wsX00 ++ (vx_atM "java/lang/ArrayIndexOutOfBoundsException" ["java/lang/IndexOutOfBoundsException", "java/lang/RuntimeException", "java/lang/Exception"]).filter goodWord ++ (vx_atS RX0 120 "java/lang/ArithmeticException" ["java/lang/RuntimeException", "java/lang/Exception"]).filter goodWord ++ (vx_atS RX0 156 "java/lang/IndexOutOfBoundsException" ["java/lang/RuntimeException", "java/lang/Exception"]).filter goodWord)
def wsX0_busiestTurn : List Cond := .code yX0_busiestTurn cX0_busiestTurn 6 (some .int) :: ([.fieldLink RX0 46 "TurnEstimator" "armCount" "I", .fieldLink RX0 19 "TurnEstimator" "estimates" "[D", .methodLink RX0 57 yX0_turn, .static yX0_turn, .initialized RX0, .code yX0_turn cX0_turn 2 (some .int)] ++ wsX00 ++ (vx_atM "java/lang/ArrayIndexOutOfBoundsException" ["java/lang/IndexOutOfBoundsException", "java/lang/RuntimeException", "java/lang/Exception"]).filter goodWord)
def wsX0_isOpen : List Cond := .code yX0_isOpen cX0_isOpen 3 (some .boolean) :: ([.fieldLink RX0 23 "TurnEstimator" "targets" "[I", .methodLink RX0 167 yX0_contains, .static yX0_contains, .initialized RX0, .code yX0_contains cX0_contains 2 (some .boolean)] ++ wsX00 ++ (vx_atM "java/lang/ArrayIndexOutOfBoundsException" ["java/lang/IndexOutOfBoundsException", "java/lang/RuntimeException", "java/lang/Exception"]).filter goodWord)
def wsX0_greatestFraction : List Cond := .code yX0_greatestFraction cX0_greatestFraction 6 (some .int) :: ([.constantDouble RX0 209 (13830554455654793216), .fieldLink RX0 46 "TurnEstimator" "armCount" "I", .fieldLink RX0 35 "TurnEstimator" "fractions" "[D", .methodLink RX0 189 yX0_isOpen, .instanceMethod yX0_isOpen, .selects RX0 yX0_isOpen yX0_isOpen, .initialized RX0, .code yX0_isOpen cX0_isOpen 3 (some .boolean), .fieldLink RX0 23 "TurnEstimator" "targets" "[I", .methodLink RX0 167 yX0_contains, .static yX0_contains, .code yX0_contains cX0_contains 2 (some .boolean)] ++ wsX00 ++ (vx_atM "java/lang/ArrayIndexOutOfBoundsException" ["java/lang/IndexOutOfBoundsException", "java/lang/RuntimeException", "java/lang/Exception"]).filter goodWord)
def wsX0_raiseGreatestFractions : List Cond := .code yX0_raiseGreatestFractions cX0_raiseGreatestFractions 6 none :: ([.fieldLink RX0 46 "TurnEstimator" "armCount" "I", .methodLink RX0 192 Lib.Math.min.name, .static Lib.Math.min.name, .initialized "java/lang/Math", .code Lib.Math.min.name Lib.Math.min.code 2 (some .int), .fieldLink RX0 26 "TurnEstimator" "roundedTable" "[I", .fieldLink RX0 35 "TurnEstimator" "fractions" "[D", .constantDouble RX0 209 (13830554455654793216), .methodLink RX0 206 yX0_greatestFraction, .instanceMethod yX0_greatestFraction, .selects RX0 yX0_greatestFraction yX0_greatestFraction, .initialized RX0, .code yX0_greatestFraction cX0_greatestFraction 6 (some .int), .methodLink RX0 189 yX0_isOpen, .instanceMethod yX0_isOpen, .selects RX0 yX0_isOpen yX0_isOpen, .code yX0_isOpen cX0_isOpen 3 (some .boolean), .fieldLink RX0 23 "TurnEstimator" "targets" "[I", .methodLink RX0 167 yX0_contains, .static yX0_contains, .code yX0_contains cX0_contains 2 (some .boolean), .methodLink RX0 57 yX0_turn, .static yX0_turn, .code yX0_turn cX0_turn 2 (some .int)] ++ wsX00 ++ (vx_atM "java/lang/ArrayIndexOutOfBoundsException" ["java/lang/IndexOutOfBoundsException", "java/lang/RuntimeException", "java/lang/Exception"]).filter goodWord)
def wsX0_roundRow_r1 : List Cond := [Cond.fieldLink RX0 46 "TurnEstimator" "armCount" "I", Cond.fieldLink RX0 19 "TurnEstimator" "estimates" "[D", Cond.fieldLink RX0 9 "TurnEstimator" "inflows" "[I", Cond.fieldLink RX0 26 "TurnEstimator" "roundedTable" "[I", Cond.fieldLink RX0 35 "TurnEstimator" "fractions" "[D", Cond.methodLink RX0 109 yX0_rowSum, Cond.instanceMethod yX0_rowSum, Cond.selects RX0 yX0_rowSum yX0_rowSum, Cond.initialized RX0, Cond.code yX0_rowSum cX0_rowSum 5 (some .double), Cond.methodLink RX0 57 yX0_turn, Cond.static yX0_turn, Cond.code yX0_turn cX0_turn 2 (some .int), Cond.methodLink RX0 203 yX0_raiseGreatestFractions, Cond.instanceMethod yX0_raiseGreatestFractions, Cond.selects RX0 yX0_raiseGreatestFractions yX0_raiseGreatestFractions, Cond.code yX0_raiseGreatestFractions cX0_raiseGreatestFractions 6 none, Cond.methodLink RX0 192 Lib.Math.min.name, Cond.static Lib.Math.min.name, Cond.initialized "java/lang/Math", Cond.code Lib.Math.min.name Lib.Math.min.code 2 (some .int), Cond.constantDouble RX0 209 (13830554455654793216), Cond.methodLink RX0 206 yX0_greatestFraction, Cond.instanceMethod yX0_greatestFraction]
def wsX0_roundRow_r2 : List Cond := [Cond.selects RX0 yX0_greatestFraction yX0_greatestFraction, Cond.code yX0_greatestFraction cX0_greatestFraction 6 (some .int), Cond.methodLink RX0 189 yX0_isOpen, Cond.instanceMethod yX0_isOpen, Cond.selects RX0 yX0_isOpen yX0_isOpen, Cond.code yX0_isOpen cX0_isOpen 3 (some .boolean), Cond.fieldLink RX0 23 "TurnEstimator" "targets" "[I", Cond.methodLink RX0 167 yX0_contains, Cond.static yX0_contains, Cond.code yX0_contains cX0_contains 2 (some .boolean)]
def wsX0_roundRow : List Cond := .code yX0_roundRow cX0_roundRow 9 none :: ((wsX0_roundRow_r1 ++ wsX0_roundRow_r2) ++ wsX00 ++ (vx_atM "java/lang/ArrayIndexOutOfBoundsException" ["java/lang/IndexOutOfBoundsException", "java/lang/RuntimeException", "java/lang/Exception"]).filter goodWord)
def wsX0_rounded_r1 : List Cond := [Cond.fieldLink RX0 26 "TurnEstimator" "roundedTable" "[I", Cond.methodLink RX0 54 yX0_requireArm, Cond.instanceMethod yX0_requireArm, Cond.selects RX0 yX0_requireArm yX0_requireArm, Cond.initialized RX0, Cond.code yX0_requireArm cX0_requireArm 2 none, Cond.classLink RX0 152 "java/lang/IndexOutOfBoundsException", Cond.initialized "java/lang/IndexOutOfBoundsException", Cond.fieldLink RX0 46 "TurnEstimator" "armCount" "I", Cond.methodLink RX0 123 yX0_roundRow, Cond.instanceMethod yX0_roundRow, Cond.selects RX0 yX0_roundRow yX0_roundRow, Cond.code yX0_roundRow cX0_roundRow 9 none, Cond.fieldLink RX0 19 "TurnEstimator" "estimates" "[D", Cond.fieldLink RX0 9 "TurnEstimator" "inflows" "[I", Cond.fieldLink RX0 35 "TurnEstimator" "fractions" "[D", Cond.methodLink RX0 109 yX0_rowSum, Cond.instanceMethod yX0_rowSum, Cond.selects RX0 yX0_rowSum yX0_rowSum, Cond.code yX0_rowSum cX0_rowSum 5 (some .double), Cond.methodLink RX0 57 yX0_turn, Cond.static yX0_turn, Cond.code yX0_turn cX0_turn 2 (some .int), Cond.methodLink RX0 203 yX0_raiseGreatestFractions]
def wsX0_rounded_r2 : List Cond := [Cond.instanceMethod yX0_raiseGreatestFractions, Cond.selects RX0 yX0_raiseGreatestFractions yX0_raiseGreatestFractions, Cond.code yX0_raiseGreatestFractions cX0_raiseGreatestFractions 6 none, Cond.methodLink RX0 192 Lib.Math.min.name, Cond.static Lib.Math.min.name, Cond.initialized "java/lang/Math", Cond.code Lib.Math.min.name Lib.Math.min.code 2 (some .int), Cond.constantDouble RX0 209 (13830554455654793216), Cond.methodLink RX0 206 yX0_greatestFraction, Cond.instanceMethod yX0_greatestFraction, Cond.selects RX0 yX0_greatestFraction yX0_greatestFraction, Cond.code yX0_greatestFraction cX0_greatestFraction 6 (some .int), Cond.methodLink RX0 189 yX0_isOpen, Cond.instanceMethod yX0_isOpen, Cond.selects RX0 yX0_isOpen yX0_isOpen, Cond.code yX0_isOpen cX0_isOpen 3 (some .boolean), Cond.fieldLink RX0 23 "TurnEstimator" "targets" "[I", Cond.methodLink RX0 167 yX0_contains, Cond.static yX0_contains, Cond.code yX0_contains cX0_contains 2 (some .boolean)]
def wsX0_rounded : List Cond := .code yX0_rounded cX0_rounded 3 (some .int) :: ((wsX0_rounded_r1 ++ wsX0_rounded_r2) ++ wsX00 ++ (vx_atM "java/lang/ArrayIndexOutOfBoundsException" ["java/lang/IndexOutOfBoundsException", "java/lang/RuntimeException", "java/lang/Exception"]).filter goodWord ++ (vx_atS RX0 156 "java/lang/IndexOutOfBoundsException" ["java/lang/RuntimeException", "java/lang/Exception"]).filter goodWord)
def wsX0_roundAllRows_r1 : List Cond := [Cond.fieldLink RX0 46 "TurnEstimator" "armCount" "I", Cond.methodLink RX0 123 yX0_roundRow, Cond.instanceMethod yX0_roundRow, Cond.selects RX0 yX0_roundRow yX0_roundRow, Cond.initialized RX0, Cond.code yX0_roundRow cX0_roundRow 9 none, Cond.fieldLink RX0 19 "TurnEstimator" "estimates" "[D", Cond.fieldLink RX0 9 "TurnEstimator" "inflows" "[I", Cond.fieldLink RX0 26 "TurnEstimator" "roundedTable" "[I", Cond.fieldLink RX0 35 "TurnEstimator" "fractions" "[D", Cond.methodLink RX0 109 yX0_rowSum, Cond.instanceMethod yX0_rowSum, Cond.selects RX0 yX0_rowSum yX0_rowSum, Cond.code yX0_rowSum cX0_rowSum 5 (some .double), Cond.methodLink RX0 57 yX0_turn, Cond.static yX0_turn, Cond.code yX0_turn cX0_turn 2 (some .int), Cond.methodLink RX0 203 yX0_raiseGreatestFractions, Cond.instanceMethod yX0_raiseGreatestFractions, Cond.selects RX0 yX0_raiseGreatestFractions yX0_raiseGreatestFractions, Cond.code yX0_raiseGreatestFractions cX0_raiseGreatestFractions 6 none, Cond.methodLink RX0 192 Lib.Math.min.name, Cond.static Lib.Math.min.name, Cond.initialized "java/lang/Math"]
def wsX0_roundAllRows_r2 : List Cond := [Cond.code Lib.Math.min.name Lib.Math.min.code 2 (some .int), Cond.constantDouble RX0 209 (13830554455654793216), Cond.methodLink RX0 206 yX0_greatestFraction, Cond.instanceMethod yX0_greatestFraction, Cond.selects RX0 yX0_greatestFraction yX0_greatestFraction, Cond.code yX0_greatestFraction cX0_greatestFraction 6 (some .int), Cond.methodLink RX0 189 yX0_isOpen, Cond.instanceMethod yX0_isOpen, Cond.selects RX0 yX0_isOpen yX0_isOpen, Cond.code yX0_isOpen cX0_isOpen 3 (some .boolean), Cond.fieldLink RX0 23 "TurnEstimator" "targets" "[I", Cond.methodLink RX0 167 yX0_contains, Cond.static yX0_contains, Cond.code yX0_contains cX0_contains 2 (some .boolean)]
def wsX0_roundAllRows : List Cond := .code yX0_roundAllRows cX0_roundAllRows 2 none :: ((wsX0_roundAllRows_r1 ++ wsX0_roundAllRows_r2) ++ wsX00 ++ (vx_atM "java/lang/ArrayIndexOutOfBoundsException" ["java/lang/IndexOutOfBoundsException", "java/lang/RuntimeException", "java/lang/Exception"]).filter goodWord)
def wsX0_roundedDifference : List Cond := .code yX0_roundedDifference cX0_roundedDifference 5 (some .int) :: ([.fieldLink RX0 46 "TurnEstimator" "armCount" "I", .fieldLink RX0 26 "TurnEstimator" "roundedTable" "[I", .fieldLink RX0 13 "TurnEstimator" "outflows" "[I", .methodLink RX0 211 Lib.Math.abs.name, .static Lib.Math.abs.name, .initialized "java/lang/Math", .code Lib.Math.abs.name Lib.Math.abs.code 1 (some .int), .methodLink RX0 57 yX0_turn, .static yX0_turn, .initialized RX0, .code yX0_turn cX0_turn 2 (some .int)] ++ wsX00 ++ (vx_atM "java/lang/ArrayIndexOutOfBoundsException" ["java/lang/IndexOutOfBoundsException", "java/lang/RuntimeException", "java/lang/Exception"]).filter goodWord)
def wsX0_roundedMisfit_r1 : List Cond := [Cond.methodLink RX0 126 yX0_roundAllRows, Cond.instanceMethod yX0_roundAllRows, Cond.selects RX0 yX0_roundAllRows yX0_roundAllRows, Cond.initialized RX0, Cond.code yX0_roundAllRows cX0_roundAllRows 2 none, Cond.fieldLink RX0 46 "TurnEstimator" "armCount" "I", Cond.methodLink RX0 123 yX0_roundRow, Cond.instanceMethod yX0_roundRow, Cond.selects RX0 yX0_roundRow yX0_roundRow, Cond.code yX0_roundRow cX0_roundRow 9 none, Cond.fieldLink RX0 19 "TurnEstimator" "estimates" "[D", Cond.fieldLink RX0 9 "TurnEstimator" "inflows" "[I", Cond.fieldLink RX0 26 "TurnEstimator" "roundedTable" "[I", Cond.fieldLink RX0 35 "TurnEstimator" "fractions" "[D", Cond.methodLink RX0 109 yX0_rowSum, Cond.instanceMethod yX0_rowSum, Cond.selects RX0 yX0_rowSum yX0_rowSum, Cond.code yX0_rowSum cX0_rowSum 5 (some .double), Cond.methodLink RX0 57 yX0_turn, Cond.static yX0_turn, Cond.code yX0_turn cX0_turn 2 (some .int), Cond.methodLink RX0 203 yX0_raiseGreatestFractions, Cond.instanceMethod yX0_raiseGreatestFractions, Cond.selects RX0 yX0_raiseGreatestFractions yX0_raiseGreatestFractions]
def wsX0_roundedMisfit_r2 : List Cond := [Cond.code yX0_raiseGreatestFractions cX0_raiseGreatestFractions 6 none, Cond.methodLink RX0 192 Lib.Math.min.name, Cond.static Lib.Math.min.name, Cond.initialized "java/lang/Math", Cond.code Lib.Math.min.name Lib.Math.min.code 2 (some .int), Cond.constantDouble RX0 209 (13830554455654793216), Cond.methodLink RX0 206 yX0_greatestFraction, Cond.instanceMethod yX0_greatestFraction, Cond.selects RX0 yX0_greatestFraction yX0_greatestFraction, Cond.code yX0_greatestFraction cX0_greatestFraction 6 (some .int), Cond.methodLink RX0 189 yX0_isOpen, Cond.instanceMethod yX0_isOpen, Cond.selects RX0 yX0_isOpen yX0_isOpen, Cond.code yX0_isOpen cX0_isOpen 3 (some .boolean), Cond.fieldLink RX0 23 "TurnEstimator" "targets" "[I", Cond.methodLink RX0 167 yX0_contains, Cond.static yX0_contains, Cond.code yX0_contains cX0_contains 2 (some .boolean), Cond.methodLink RX0 129 yX0_roundedDifference, Cond.instanceMethod yX0_roundedDifference, Cond.selects RX0 yX0_roundedDifference yX0_roundedDifference, Cond.code yX0_roundedDifference cX0_roundedDifference 5 (some .int), Cond.fieldLink RX0 13 "TurnEstimator" "outflows" "[I", Cond.methodLink RX0 211 Lib.Math.abs.name]
def wsX0_roundedMisfit_r3 : List Cond := [Cond.static Lib.Math.abs.name, Cond.code Lib.Math.abs.name Lib.Math.abs.code 1 (some .int)]
def wsX0_roundedMisfit : List Cond := .code yX0_roundedMisfit cX0_roundedMisfit 1 (some .int) :: ((wsX0_roundedMisfit_r1 ++ (wsX0_roundedMisfit_r2 ++ wsX0_roundedMisfit_r3)) ++ wsX00 ++ (vx_atM "java/lang/ArrayIndexOutOfBoundsException" ["java/lang/IndexOutOfBoundsException", "java/lang/RuntimeException", "java/lang/Exception"]).filter goodWord)
def wsX0_greatestPossible_r1 : List Cond := [Cond.fieldLink RX0 32 "TurnEstimator" "outflowsLeft" "[I", Cond.methodLink RX0 192 Lib.Math.min.name, Cond.static Lib.Math.min.name, Cond.initialized "java/lang/Math", Cond.code Lib.Math.min.name Lib.Math.min.code 2 (some .int), Cond.methodLink RX0 189 yX0_isOpen, Cond.instanceMethod yX0_isOpen, Cond.selects RX0 yX0_isOpen yX0_isOpen, Cond.initialized RX0, Cond.code yX0_isOpen cX0_isOpen 3 (some .boolean), Cond.fieldLink RX0 23 "TurnEstimator" "targets" "[I", Cond.methodLink RX0 167 yX0_contains, Cond.static yX0_contains, Cond.code yX0_contains cX0_contains 2 (some .boolean), Cond.methodLink RX0 85 yX0_allArms, Cond.instanceMethod yX0_allArms, Cond.selects RX0 yX0_allArms yX0_allArms, Cond.code yX0_allArms cX0_allArms 1 (some .int), Cond.fieldLink RX0 46 "TurnEstimator" "armCount" "I", Cond.methodLink RX0 171 yX0_reachedFrom, Cond.instanceMethod yX0_reachedFrom, Cond.selects RX0 yX0_reachedFrom yX0_reachedFrom, Cond.code yX0_reachedFrom cX0_reachedFrom 4 (some .int), Cond.methodLink RX0 88 yX0_excessOver]
def wsX0_greatestPossible_r2 : List Cond := [Cond.instanceMethod yX0_excessOver, Cond.selects RX0 yX0_excessOver yX0_excessOver, Cond.code yX0_excessOver cX0_excessOver 6 (some .int), Cond.fieldLink RX0 9 "TurnEstimator" "inflows" "[I"]
def wsX0_greatestPossible : List Cond := .code yX0_greatestPossible cX0_greatestPossible 7 (some .int) :: ((wsX0_greatestPossible_r1 ++ wsX0_greatestPossible_r2) ++ wsX00 ++ (vx_atM "java/lang/ArrayIndexOutOfBoundsException" ["java/lang/IndexOutOfBoundsException", "java/lang/RuntimeException", "java/lang/Exception"]).filter goodWord)
def wsX0_fillPossibleTable_r1 : List Cond := [Cond.fieldLink RX0 13 "TurnEstimator" "outflows" "[I", Cond.fieldLink RX0 32 "TurnEstimator" "outflowsLeft" "[I", Cond.methodLink RX0 179 arraycopyName, Cond.native arraycopyName, Cond.static arraycopyName, Cond.initialized "java/lang/System", Cond.fieldLink RX0 46 "TurnEstimator" "armCount" "I", Cond.fieldLink RX0 9 "TurnEstimator" "inflows" "[I", Cond.fieldLink RX0 29 "TurnEstimator" "possibleTable" "[I", Cond.methodLink RX0 175 yX0_isPossible, Cond.instanceMethod yX0_isPossible, Cond.selects RX0 yX0_isPossible yX0_isPossible, Cond.initialized RX0, Cond.code yX0_isPossible cX0_isPossible 1 (some .boolean), Cond.methodLink RX0 78 yX0_imbalance, Cond.instanceMethod yX0_imbalance, Cond.selects RX0 yX0_imbalance yX0_imbalance, Cond.code yX0_imbalance cX0_imbalance 1 (some .int), Cond.methodLink RX0 74 yX0_total, Cond.instanceMethod yX0_total, Cond.selects RX0 yX0_total yX0_total, Cond.code yX0_total cX0_total 4 (some .int), Cond.methodLink RX0 82 yX0_crowdedSet, Cond.instanceMethod yX0_crowdedSet]
def wsX0_fillPossibleTable_r2 : List Cond := [Cond.selects RX0 yX0_crowdedSet yX0_crowdedSet, Cond.code yX0_crowdedSet cX0_crowdedSet 2 (some .int), Cond.methodLink RX0 85 yX0_allArms, Cond.instanceMethod yX0_allArms, Cond.selects RX0 yX0_allArms yX0_allArms, Cond.code yX0_allArms cX0_allArms 1 (some .int), Cond.methodLink RX0 88 yX0_excessOver, Cond.instanceMethod yX0_excessOver, Cond.selects RX0 yX0_excessOver yX0_excessOver, Cond.code yX0_excessOver cX0_excessOver 6 (some .int), Cond.methodLink RX0 171 yX0_reachedFrom, Cond.instanceMethod yX0_reachedFrom, Cond.selects RX0 yX0_reachedFrom yX0_reachedFrom, Cond.code yX0_reachedFrom cX0_reachedFrom 4 (some .int), Cond.fieldLink RX0 23 "TurnEstimator" "targets" "[I", Cond.methodLink RX0 167 yX0_contains, Cond.static yX0_contains, Cond.code yX0_contains cX0_contains 2 (some .boolean), Cond.methodLink RX0 185 yX0_greatestPossible, Cond.instanceMethod yX0_greatestPossible, Cond.selects RX0 yX0_greatestPossible yX0_greatestPossible, Cond.code yX0_greatestPossible cX0_greatestPossible 7 (some .int), Cond.methodLink RX0 192 Lib.Math.min.name, Cond.static Lib.Math.min.name]
def wsX0_fillPossibleTable_r3 : List Cond := [Cond.initialized "java/lang/Math", Cond.code Lib.Math.min.name Lib.Math.min.code 2 (some .int), Cond.methodLink RX0 189 yX0_isOpen, Cond.instanceMethod yX0_isOpen, Cond.selects RX0 yX0_isOpen yX0_isOpen, Cond.code yX0_isOpen cX0_isOpen 3 (some .boolean), Cond.methodLink RX0 57 yX0_turn, Cond.static yX0_turn, Cond.code yX0_turn cX0_turn 2 (some .int)]
def wsX0_fillPossibleTable : List Cond := .code yX0_fillPossibleTable cX0_fillPossibleTable 6 none :: ((wsX0_fillPossibleTable_r1 ++ (wsX0_fillPossibleTable_r2 ++ wsX0_fillPossibleTable_r3)) ++ wsX00 ++ (vx_atM "java/lang/ArrayIndexOutOfBoundsException" ["java/lang/IndexOutOfBoundsException", "java/lang/RuntimeException", "java/lang/Exception"]).filter goodWord)
def wsX0_possible_r1 : List Cond := [Cond.fieldLink RX0 29 "TurnEstimator" "possibleTable" "[I", Cond.methodLink RX0 54 yX0_requireArm, Cond.instanceMethod yX0_requireArm, Cond.selects RX0 yX0_requireArm yX0_requireArm, Cond.initialized RX0, Cond.code yX0_requireArm cX0_requireArm 2 none, Cond.classLink RX0 152 "java/lang/IndexOutOfBoundsException", Cond.initialized "java/lang/IndexOutOfBoundsException", Cond.fieldLink RX0 46 "TurnEstimator" "armCount" "I", Cond.methodLink RX0 132 yX0_fillPossibleTable, Cond.instanceMethod yX0_fillPossibleTable, Cond.selects RX0 yX0_fillPossibleTable yX0_fillPossibleTable, Cond.code yX0_fillPossibleTable cX0_fillPossibleTable 6 none, Cond.fieldLink RX0 13 "TurnEstimator" "outflows" "[I", Cond.fieldLink RX0 32 "TurnEstimator" "outflowsLeft" "[I", Cond.methodLink RX0 179 arraycopyName, Cond.native arraycopyName, Cond.static arraycopyName, Cond.initialized "java/lang/System", Cond.fieldLink RX0 9 "TurnEstimator" "inflows" "[I", Cond.methodLink RX0 175 yX0_isPossible, Cond.instanceMethod yX0_isPossible, Cond.selects RX0 yX0_isPossible yX0_isPossible, Cond.code yX0_isPossible cX0_isPossible 1 (some .boolean)]
def wsX0_possible_r2 : List Cond := [Cond.methodLink RX0 78 yX0_imbalance, Cond.instanceMethod yX0_imbalance, Cond.selects RX0 yX0_imbalance yX0_imbalance, Cond.code yX0_imbalance cX0_imbalance 1 (some .int), Cond.methodLink RX0 74 yX0_total, Cond.instanceMethod yX0_total, Cond.selects RX0 yX0_total yX0_total, Cond.code yX0_total cX0_total 4 (some .int), Cond.methodLink RX0 82 yX0_crowdedSet, Cond.instanceMethod yX0_crowdedSet, Cond.selects RX0 yX0_crowdedSet yX0_crowdedSet, Cond.code yX0_crowdedSet cX0_crowdedSet 2 (some .int), Cond.methodLink RX0 85 yX0_allArms, Cond.instanceMethod yX0_allArms, Cond.selects RX0 yX0_allArms yX0_allArms, Cond.code yX0_allArms cX0_allArms 1 (some .int), Cond.methodLink RX0 88 yX0_excessOver, Cond.instanceMethod yX0_excessOver, Cond.selects RX0 yX0_excessOver yX0_excessOver, Cond.code yX0_excessOver cX0_excessOver 6 (some .int), Cond.methodLink RX0 171 yX0_reachedFrom, Cond.instanceMethod yX0_reachedFrom, Cond.selects RX0 yX0_reachedFrom yX0_reachedFrom, Cond.code yX0_reachedFrom cX0_reachedFrom 4 (some .int)]
def wsX0_possible_r3 : List Cond := [Cond.fieldLink RX0 23 "TurnEstimator" "targets" "[I", Cond.methodLink RX0 167 yX0_contains, Cond.static yX0_contains, Cond.code yX0_contains cX0_contains 2 (some .boolean), Cond.methodLink RX0 185 yX0_greatestPossible, Cond.instanceMethod yX0_greatestPossible, Cond.selects RX0 yX0_greatestPossible yX0_greatestPossible, Cond.code yX0_greatestPossible cX0_greatestPossible 7 (some .int), Cond.methodLink RX0 192 Lib.Math.min.name, Cond.static Lib.Math.min.name, Cond.initialized "java/lang/Math", Cond.code Lib.Math.min.name Lib.Math.min.code 2 (some .int), Cond.methodLink RX0 189 yX0_isOpen, Cond.instanceMethod yX0_isOpen, Cond.selects RX0 yX0_isOpen yX0_isOpen, Cond.code yX0_isOpen cX0_isOpen 3 (some .boolean), Cond.methodLink RX0 57 yX0_turn, Cond.static yX0_turn, Cond.code yX0_turn cX0_turn 2 (some .int)]
def wsX0_possible : List Cond := .code yX0_possible cX0_possible 3 (some .int) :: ((wsX0_possible_r1 ++ (wsX0_possible_r2 ++ wsX0_possible_r3)) ++ wsX00 ++ (vx_atM "java/lang/ArrayIndexOutOfBoundsException" ["java/lang/IndexOutOfBoundsException", "java/lang/RuntimeException", "java/lang/Exception"]).filter goodWord ++ (vx_atS RX0 156 "java/lang/IndexOutOfBoundsException" ["java/lang/RuntimeException", "java/lang/Exception"]).filter goodWord)
def wsX0_mixed : List Cond := .code yX0_mixed cX0_mixed 4 (some .long) :: ([.constantLong RX0 214 (31)])
def wsX0_thousandthsOf : List Cond := .code yX0_thousandthsOf cX0_thousandthsOf 2 (some .long) :: ([.constantDouble RX0 99 (4652007308841189376)])
def wsX0_mixedTurn : List Cond := .code yX0_mixedTurn cX0_mixedTurn 6 (some .long) :: ([.fieldLink RX0 16 "TurnEstimator" "weights" "[I", .fieldLink RX0 19 "TurnEstimator" "estimates" "[D", .fieldLink RX0 26 "TurnEstimator" "roundedTable" "[I", .fieldLink RX0 29 "TurnEstimator" "possibleTable" "[I", .methodLink RX0 137 yX0_mixed, .static yX0_mixed, .initialized RX0, .code yX0_mixed cX0_mixed 4 (some .long), .constantLong RX0 214 (31), .methodLink RX0 145 yX0_thousandthsOf, .static yX0_thousandthsOf, .code yX0_thousandthsOf cX0_thousandthsOf 2 (some .long), .constantDouble RX0 99 (4652007308841189376)] ++ wsX00 ++ (vx_atM "java/lang/ArrayIndexOutOfBoundsException" ["java/lang/IndexOutOfBoundsException", "java/lang/RuntimeException", "java/lang/Exception"]).filter goodWord)
def wsX0_digest_r1 : List Cond := [Cond.constantLong RX0 135 (1873), Cond.fieldLink RX0 46 "TurnEstimator" "armCount" "I", Cond.fieldLink RX0 9 "TurnEstimator" "inflows" "[I", Cond.fieldLink RX0 13 "TurnEstimator" "outflows" "[I", Cond.fieldLink RX0 95 "TurnEstimator" "roundCount" "I", Cond.methodLink RX0 126 yX0_roundAllRows, Cond.instanceMethod yX0_roundAllRows, Cond.selects RX0 yX0_roundAllRows yX0_roundAllRows, Cond.initialized RX0, Cond.code yX0_roundAllRows cX0_roundAllRows 2 none, Cond.methodLink RX0 123 yX0_roundRow, Cond.instanceMethod yX0_roundRow, Cond.selects RX0 yX0_roundRow yX0_roundRow, Cond.code yX0_roundRow cX0_roundRow 9 none, Cond.fieldLink RX0 19 "TurnEstimator" "estimates" "[D", Cond.fieldLink RX0 26 "TurnEstimator" "roundedTable" "[I", Cond.fieldLink RX0 35 "TurnEstimator" "fractions" "[D", Cond.methodLink RX0 109 yX0_rowSum, Cond.instanceMethod yX0_rowSum, Cond.selects RX0 yX0_rowSum yX0_rowSum, Cond.code yX0_rowSum cX0_rowSum 5 (some .double), Cond.methodLink RX0 57 yX0_turn, Cond.static yX0_turn, Cond.code yX0_turn cX0_turn 2 (some .int)]
def wsX0_digest_r2 : List Cond := [Cond.methodLink RX0 203 yX0_raiseGreatestFractions, Cond.instanceMethod yX0_raiseGreatestFractions, Cond.selects RX0 yX0_raiseGreatestFractions yX0_raiseGreatestFractions, Cond.code yX0_raiseGreatestFractions cX0_raiseGreatestFractions 6 none, Cond.methodLink RX0 192 Lib.Math.min.name, Cond.static Lib.Math.min.name, Cond.initialized "java/lang/Math", Cond.code Lib.Math.min.name Lib.Math.min.code 2 (some .int), Cond.constantDouble RX0 209 (13830554455654793216), Cond.methodLink RX0 206 yX0_greatestFraction, Cond.instanceMethod yX0_greatestFraction, Cond.selects RX0 yX0_greatestFraction yX0_greatestFraction, Cond.code yX0_greatestFraction cX0_greatestFraction 6 (some .int), Cond.methodLink RX0 189 yX0_isOpen, Cond.instanceMethod yX0_isOpen, Cond.selects RX0 yX0_isOpen yX0_isOpen, Cond.code yX0_isOpen cX0_isOpen 3 (some .boolean), Cond.fieldLink RX0 23 "TurnEstimator" "targets" "[I", Cond.methodLink RX0 167 yX0_contains, Cond.static yX0_contains, Cond.code yX0_contains cX0_contains 2 (some .boolean), Cond.methodLink RX0 132 yX0_fillPossibleTable, Cond.instanceMethod yX0_fillPossibleTable, Cond.selects RX0 yX0_fillPossibleTable yX0_fillPossibleTable]
def wsX0_digest_r3 : List Cond := [Cond.code yX0_fillPossibleTable cX0_fillPossibleTable 6 none, Cond.fieldLink RX0 32 "TurnEstimator" "outflowsLeft" "[I", Cond.methodLink RX0 179 arraycopyName, Cond.native arraycopyName, Cond.static arraycopyName, Cond.initialized "java/lang/System", Cond.fieldLink RX0 29 "TurnEstimator" "possibleTable" "[I", Cond.methodLink RX0 175 yX0_isPossible, Cond.instanceMethod yX0_isPossible, Cond.selects RX0 yX0_isPossible yX0_isPossible, Cond.code yX0_isPossible cX0_isPossible 1 (some .boolean), Cond.methodLink RX0 78 yX0_imbalance, Cond.instanceMethod yX0_imbalance, Cond.selects RX0 yX0_imbalance yX0_imbalance, Cond.code yX0_imbalance cX0_imbalance 1 (some .int), Cond.methodLink RX0 74 yX0_total, Cond.instanceMethod yX0_total, Cond.selects RX0 yX0_total yX0_total, Cond.code yX0_total cX0_total 4 (some .int), Cond.methodLink RX0 82 yX0_crowdedSet, Cond.instanceMethod yX0_crowdedSet, Cond.selects RX0 yX0_crowdedSet yX0_crowdedSet, Cond.code yX0_crowdedSet cX0_crowdedSet 2 (some .int), Cond.methodLink RX0 85 yX0_allArms]
def wsX0_digest_r4 : List Cond := [Cond.instanceMethod yX0_allArms, Cond.selects RX0 yX0_allArms yX0_allArms, Cond.code yX0_allArms cX0_allArms 1 (some .int), Cond.methodLink RX0 88 yX0_excessOver, Cond.instanceMethod yX0_excessOver, Cond.selects RX0 yX0_excessOver yX0_excessOver, Cond.code yX0_excessOver cX0_excessOver 6 (some .int), Cond.methodLink RX0 171 yX0_reachedFrom, Cond.instanceMethod yX0_reachedFrom, Cond.selects RX0 yX0_reachedFrom yX0_reachedFrom, Cond.code yX0_reachedFrom cX0_reachedFrom 4 (some .int), Cond.methodLink RX0 185 yX0_greatestPossible, Cond.instanceMethod yX0_greatestPossible, Cond.selects RX0 yX0_greatestPossible yX0_greatestPossible, Cond.code yX0_greatestPossible cX0_greatestPossible 7 (some .int), Cond.methodLink RX0 137 yX0_mixed, Cond.static yX0_mixed, Cond.code yX0_mixed cX0_mixed 4 (some .long), Cond.constantLong RX0 214 (31), Cond.methodLink RX0 141 yX0_mixedTurn, Cond.instanceMethod yX0_mixedTurn, Cond.selects RX0 yX0_mixedTurn yX0_mixedTurn, Cond.code yX0_mixedTurn cX0_mixedTurn 6 (some .long), Cond.fieldLink RX0 16 "TurnEstimator" "weights" "[I"]
def wsX0_digest_r5 : List Cond := [Cond.methodLink RX0 145 yX0_thousandthsOf, Cond.static yX0_thousandthsOf, Cond.code yX0_thousandthsOf cX0_thousandthsOf 2 (some .long), Cond.constantDouble RX0 99 (4652007308841189376), Cond.methodLink RX0 101 yX0_misfit, Cond.instanceMethod yX0_misfit, Cond.selects RX0 yX0_misfit yX0_misfit, Cond.code yX0_misfit cX0_misfit 8 (some .double), Cond.methodLink RX0 112 yX0_distance, Cond.static yX0_distance, Cond.code yX0_distance cX0_distance 6 (some .double), Cond.methodLink RX0 105 yX0_columnSum, Cond.instanceMethod yX0_columnSum, Cond.selects RX0 yX0_columnSum yX0_columnSum, Cond.code yX0_columnSum cX0_columnSum 5 (some .double), Cond.methodLink RX0 149 yX0_busiestTurn, Cond.instanceMethod yX0_busiestTurn, Cond.selects RX0 yX0_busiestTurn yX0_busiestTurn, Cond.code yX0_busiestTurn cX0_busiestTurn 6 (some .int), Cond.methodLink RX0 129 yX0_roundedDifference, Cond.instanceMethod yX0_roundedDifference, Cond.selects RX0 yX0_roundedDifference yX0_roundedDifference, Cond.code yX0_roundedDifference cX0_roundedDifference 5 (some .int), Cond.methodLink RX0 211 Lib.Math.abs.name]
def wsX0_digest_r6 : List Cond := [Cond.static Lib.Math.abs.name, Cond.code Lib.Math.abs.name Lib.Math.abs.code 1 (some .int)]
def wsX0_digest : List Cond := .code yX0_digest cX0_digest 5 (some .long) :: ((wsX0_digest_r1 ++ (wsX0_digest_r2 ++ (wsX0_digest_r3 ++ (wsX0_digest_r4 ++ (wsX0_digest_r5 ++ wsX0_digest_r6))))) ++ wsX00 ++ (vx_atM "java/lang/ArrayIndexOutOfBoundsException" ["java/lang/IndexOutOfBoundsException", "java/lang/RuntimeException", "java/lang/Exception"]).filter goodWord)
def wsX1_layWeights : List Cond := .code yX1_layWeights cX1_layWeights 2 none :: ([.fieldLink RX1 23 "TurnEstimatorModel" "estimates" "[D", .fieldLink RX1 20 "TurnEstimatorModel" "weights" "[I", .fieldLink RX1 52 "TurnEstimatorModel" "roundsDone" "I"] ++ wsX10 ++ (vx_atM "java/lang/ArrayIndexOutOfBoundsException" ["java/lang/IndexOutOfBoundsException", "java/lang/RuntimeException", "java/lang/Exception"]).filter goodWord)
def wsX1_begin : List Cond := .code yX1_begin cX1_begin 2 none :: ([.fieldLink RX1 20 "TurnEstimatorModel" "weights" "[I", .fieldLink RX1 13 "TurnEstimatorModel" "inflow" "[I", .fieldLink RX1 17 "TurnEstimatorModel" "outflow" "[I", .methodLink RX1 55 yX1_layWeights, .instanceMethod yX1_layWeights, .selects RX1 yX1_layWeights yX1_layWeights, .initialized RX1, .code yX1_layWeights cX1_layWeights 2 none, .fieldLink RX1 23 "TurnEstimatorModel" "estimates" "[D", .fieldLink RX1 52 "TurnEstimatorModel" "roundsDone" "I"] ++ wsX10 ++ (vx_atM "java/lang/ArrayIndexOutOfBoundsException" ["java/lang/IndexOutOfBoundsException", "java/lang/RuntimeException", "java/lang/Exception"]).filter goodWord)
def wsX1_init_r1 : List Cond := [Cond.methodLink RX1 1 objectInit, Cond.instanceMethod objectInit, Cond.code objectInit ⟨#[0xb1]⟩ 1 none, Cond.fieldLink RX1 7 "TurnEstimatorModel" "arms" "I", Cond.arrayClass .int, Cond.fieldLink RX1 13 "TurnEstimatorModel" "inflow" "[I", Cond.fieldLink RX1 17 "TurnEstimatorModel" "outflow" "[I", Cond.fieldLink RX1 20 "TurnEstimatorModel" "weights" "[I", Cond.arrayClass .double, Cond.fieldLink RX1 23 "TurnEstimatorModel" "estimates" "[D", Cond.fieldLink RX1 27 "TurnEstimatorModel" "whole" "[I", Cond.fieldLink RX1 30 "TurnEstimatorModel" "fraction" "[D", Cond.fieldLink RX1 33 "TurnEstimatorModel" "table" "[I", Cond.fieldLink RX1 36 "TurnEstimatorModel" "rowLeft" "[I", Cond.fieldLink RX1 39 "TurnEstimatorModel" "columnLeft" "[I", Cond.methodLink RX1 42 yX1_begin, Cond.instanceMethod yX1_begin, Cond.selects RX1 yX1_begin yX1_begin, Cond.initialized RX1, Cond.code yX1_begin cX1_begin 2 none, Cond.methodLink RX1 55 yX1_layWeights, Cond.instanceMethod yX1_layWeights, Cond.selects RX1 yX1_layWeights yX1_layWeights, Cond.code yX1_layWeights cX1_layWeights 2 none]
def wsX1_init_r2 : List Cond := [Cond.fieldLink RX1 52 "TurnEstimatorModel" "roundsDone" "I"]
def wsX1_init : List Cond := .code yX1_init cX1_init 1 none :: ((wsX1_init_r1 ++ wsX1_init_r2) ++ wsX10 ++ (vx_atM "java/lang/ArrayIndexOutOfBoundsException" ["java/lang/IndexOutOfBoundsException", "java/lang/RuntimeException", "java/lang/Exception"]).filter goodWord)
def wsX1_thrown : List Cond := .code yX1_thrown cX1_thrown 1 (some .int) :: ([.fieldLink RX1 45 "TurnEstimatorModel" "thrown" "I"] ++ wsX10)
def wsX1_within : List Cond := .code yX1_within cX1_within 3 (some .boolean) :: ([])
def wsX1_isArm : List Cond := .code yX1_isArm cX1_isArm 2 (some .boolean) :: ([.fieldLink RX1 7 "TurnEstimatorModel" "arms" "I", .methodLink RX1 48 yX1_within, .static yX1_within, .initialized RX1, .code yX1_within cX1_within 3 (some .boolean)] ++ wsX10)
def wsX1_setArms : List Cond := .code yX1_setArms cX1_setArms 3 (some .int) :: ([.fieldLink RX1 45 "TurnEstimatorModel" "thrown" "I", .fieldLink RX1 7 "TurnEstimatorModel" "arms" "I", .methodLink RX1 48 yX1_within, .static yX1_within, .initialized RX1, .code yX1_within cX1_within 3 (some .boolean), .methodLink RX1 42 yX1_begin, .instanceMethod yX1_begin, .selects RX1 yX1_begin yX1_begin, .code yX1_begin cX1_begin 2 none, .fieldLink RX1 20 "TurnEstimatorModel" "weights" "[I", .fieldLink RX1 13 "TurnEstimatorModel" "inflow" "[I", .fieldLink RX1 17 "TurnEstimatorModel" "outflow" "[I", .methodLink RX1 55 yX1_layWeights, .instanceMethod yX1_layWeights, .selects RX1 yX1_layWeights yX1_layWeights, .code yX1_layWeights cX1_layWeights 2 none, .fieldLink RX1 23 "TurnEstimatorModel" "estimates" "[D", .fieldLink RX1 52 "TurnEstimatorModel" "roundsDone" "I"] ++ wsX10 ++ (vx_atM "java/lang/ArrayIndexOutOfBoundsException" ["java/lang/IndexOutOfBoundsException", "java/lang/RuntimeException", "java/lang/Exception"]).filter goodWord)
def wsX1_arms : List Cond := .code yX1_arms cX1_arms 1 (some .int) :: ([.fieldLink RX1 45 "TurnEstimatorModel" "thrown" "I", .fieldLink RX1 7 "TurnEstimatorModel" "arms" "I"] ++ wsX10)
def wsX1_setInflow : List Cond := .code yX1_setInflow cX1_setInflow 4 (some .int) :: ([.fieldLink RX1 45 "TurnEstimatorModel" "thrown" "I", .fieldLink RX1 13 "TurnEstimatorModel" "inflow" "[I", .methodLink RX1 58 yX1_isArm, .instanceMethod yX1_isArm, .selects RX1 yX1_isArm yX1_isArm, .initialized RX1, .code yX1_isArm cX1_isArm 2 (some .boolean), .fieldLink RX1 7 "TurnEstimatorModel" "arms" "I", .methodLink RX1 48 yX1_within, .static yX1_within, .code yX1_within cX1_within 3 (some .boolean), .methodLink RX1 55 yX1_layWeights, .instanceMethod yX1_layWeights, .selects RX1 yX1_layWeights yX1_layWeights, .code yX1_layWeights cX1_layWeights 2 none, .fieldLink RX1 23 "TurnEstimatorModel" "estimates" "[D", .fieldLink RX1 20 "TurnEstimatorModel" "weights" "[I", .fieldLink RX1 52 "TurnEstimatorModel" "roundsDone" "I"] ++ wsX10 ++ (vx_atM "java/lang/ArrayIndexOutOfBoundsException" ["java/lang/IndexOutOfBoundsException", "java/lang/RuntimeException", "java/lang/Exception"]).filter goodWord)
def wsX1_setOutflow : List Cond := .code yX1_setOutflow cX1_setOutflow 4 (some .int) :: ([.fieldLink RX1 45 "TurnEstimatorModel" "thrown" "I", .fieldLink RX1 17 "TurnEstimatorModel" "outflow" "[I", .methodLink RX1 58 yX1_isArm, .instanceMethod yX1_isArm, .selects RX1 yX1_isArm yX1_isArm, .initialized RX1, .code yX1_isArm cX1_isArm 2 (some .boolean), .fieldLink RX1 7 "TurnEstimatorModel" "arms" "I", .methodLink RX1 48 yX1_within, .static yX1_within, .code yX1_within cX1_within 3 (some .boolean), .methodLink RX1 55 yX1_layWeights, .instanceMethod yX1_layWeights, .selects RX1 yX1_layWeights yX1_layWeights, .code yX1_layWeights cX1_layWeights 2 none, .fieldLink RX1 23 "TurnEstimatorModel" "estimates" "[D", .fieldLink RX1 20 "TurnEstimatorModel" "weights" "[I", .fieldLink RX1 52 "TurnEstimatorModel" "roundsDone" "I"] ++ wsX10 ++ (vx_atM "java/lang/ArrayIndexOutOfBoundsException" ["java/lang/IndexOutOfBoundsException", "java/lang/RuntimeException", "java/lang/Exception"]).filter goodWord)
def wsX1_setWeight : List Cond := .code yX1_setWeight cX1_setWeight 5 (some .int) :: ([.fieldLink RX1 45 "TurnEstimatorModel" "thrown" "I", .fieldLink RX1 20 "TurnEstimatorModel" "weights" "[I", .methodLink RX1 58 yX1_isArm, .instanceMethod yX1_isArm, .selects RX1 yX1_isArm yX1_isArm, .initialized RX1, .code yX1_isArm cX1_isArm 2 (some .boolean), .fieldLink RX1 7 "TurnEstimatorModel" "arms" "I", .methodLink RX1 48 yX1_within, .static yX1_within, .code yX1_within cX1_within 3 (some .boolean), .methodLink RX1 55 yX1_layWeights, .instanceMethod yX1_layWeights, .selects RX1 yX1_layWeights yX1_layWeights, .code yX1_layWeights cX1_layWeights 2 none, .fieldLink RX1 23 "TurnEstimatorModel" "estimates" "[D", .fieldLink RX1 52 "TurnEstimatorModel" "roundsDone" "I"] ++ wsX10 ++ (vx_atM "java/lang/ArrayIndexOutOfBoundsException" ["java/lang/IndexOutOfBoundsException", "java/lang/RuntimeException", "java/lang/Exception"]).filter goodWord)
def wsX1_scaled : List Cond := .code yX1_scaled cX1_scaled 2 (some .int) :: ([])
def wsX1_isScalable : List Cond := .code yX1_isScalable cX1_isScalable 4 (some .boolean) :: ([.fieldLink RX1 7 "TurnEstimatorModel" "arms" "I", .fieldLink RX1 13 "TurnEstimatorModel" "inflow" "[I", .fieldLink RX1 17 "TurnEstimatorModel" "outflow" "[I", .methodLink RX1 62 yX1_scaled, .static yX1_scaled, .initialized RX1, .code yX1_scaled cX1_scaled 2 (some .int)] ++ wsX10 ++ (vx_atM "java/lang/ArrayIndexOutOfBoundsException" ["java/lang/IndexOutOfBoundsException", "java/lang/RuntimeException", "java/lang/Exception"]).filter goodWord)
def wsX1_scale : List Cond := .code yX1_scale cX1_scale 4 (some .int) :: ([.fieldLink RX1 45 "TurnEstimatorModel" "thrown" "I", .fieldLink RX1 7 "TurnEstimatorModel" "arms" "I", .fieldLink RX1 13 "TurnEstimatorModel" "inflow" "[I", .fieldLink RX1 17 "TurnEstimatorModel" "outflow" "[I", .methodLink RX1 48 yX1_within, .static yX1_within, .initialized RX1, .code yX1_within cX1_within 3 (some .boolean), .methodLink RX1 66 yX1_isScalable, .instanceMethod yX1_isScalable, .selects RX1 yX1_isScalable yX1_isScalable, .code yX1_isScalable cX1_isScalable 4 (some .boolean), .methodLink RX1 62 yX1_scaled, .static yX1_scaled, .code yX1_scaled cX1_scaled 2 (some .int), .methodLink RX1 55 yX1_layWeights, .instanceMethod yX1_layWeights, .selects RX1 yX1_layWeights yX1_layWeights, .code yX1_layWeights cX1_layWeights 2 none, .fieldLink RX1 23 "TurnEstimatorModel" "estimates" "[D", .fieldLink RX1 20 "TurnEstimatorModel" "weights" "[I", .fieldLink RX1 52 "TurnEstimatorModel" "roundsDone" "I"] ++ wsX10 ++ (vx_atM "java/lang/ArrayIndexOutOfBoundsException" ["java/lang/IndexOutOfBoundsException", "java/lang/RuntimeException", "java/lang/Exception"]).filter goodWord)
def wsX1_difference : List Cond := .code yX1_difference cX1_difference 3 (some .int) :: ([.fieldLink RX1 7 "TurnEstimatorModel" "arms" "I", .fieldLink RX1 13 "TurnEstimatorModel" "inflow" "[I", .fieldLink RX1 17 "TurnEstimatorModel" "outflow" "[I"] ++ wsX10 ++ (vx_atM "java/lang/ArrayIndexOutOfBoundsException" ["java/lang/IndexOutOfBoundsException", "java/lang/RuntimeException", "java/lang/Exception"]).filter goodWord)
def wsX1_imbalance : List Cond := .code yX1_imbalance cX1_imbalance 1 (some .int) :: ([.fieldLink RX1 45 "TurnEstimatorModel" "thrown" "I", .methodLink RX1 69 yX1_difference, .instanceMethod yX1_difference, .selects RX1 yX1_difference yX1_difference, .initialized RX1, .code yX1_difference cX1_difference 3 (some .int), .fieldLink RX1 7 "TurnEstimatorModel" "arms" "I", .fieldLink RX1 13 "TurnEstimatorModel" "inflow" "[I", .fieldLink RX1 17 "TurnEstimatorModel" "outflow" "[I"] ++ wsX10 ++ (vx_atM "java/lang/ArrayIndexOutOfBoundsException" ["java/lang/IndexOutOfBoundsException", "java/lang/RuntimeException", "java/lang/Exception"]).filter goodWord)
def wsX1_excessOf : List Cond := .code yX1_excessOf cX1_excessOf 6 (some .int) :: ([.fieldLink RX1 7 "TurnEstimatorModel" "arms" "I", .fieldLink RX1 20 "TurnEstimatorModel" "weights" "[I", .fieldLink RX1 13 "TurnEstimatorModel" "inflow" "[I", .fieldLink RX1 17 "TurnEstimatorModel" "outflow" "[I"] ++ wsX10 ++ (vx_atM "java/lang/ArrayIndexOutOfBoundsException" ["java/lang/IndexOutOfBoundsException", "java/lang/RuntimeException", "java/lang/Exception"]).filter goodWord)
def wsX1_crowded : List Cond := .code yX1_crowded cX1_crowded 2 (some .int) :: ([.fieldLink RX1 7 "TurnEstimatorModel" "arms" "I", .methodLink RX1 73 yX1_excessOf, .instanceMethod yX1_excessOf, .selects RX1 yX1_excessOf yX1_excessOf, .initialized RX1, .code yX1_excessOf cX1_excessOf 6 (some .int), .fieldLink RX1 20 "TurnEstimatorModel" "weights" "[I", .fieldLink RX1 13 "TurnEstimatorModel" "inflow" "[I", .fieldLink RX1 17 "TurnEstimatorModel" "outflow" "[I"] ++ wsX10 ++ (vx_atM "java/lang/ArrayIndexOutOfBoundsException" ["java/lang/IndexOutOfBoundsException", "java/lang/RuntimeException", "java/lang/Exception"]).filter goodWord)
def wsX1_arePossible : List Cond := .code yX1_arePossible cX1_arePossible 1 (some .boolean) :: ([.methodLink RX1 69 yX1_difference, .instanceMethod yX1_difference, .selects RX1 yX1_difference yX1_difference, .initialized RX1, .code yX1_difference cX1_difference 3 (some .int), .fieldLink RX1 7 "TurnEstimatorModel" "arms" "I", .fieldLink RX1 13 "TurnEstimatorModel" "inflow" "[I", .fieldLink RX1 17 "TurnEstimatorModel" "outflow" "[I", .methodLink RX1 77 yX1_crowded, .instanceMethod yX1_crowded, .selects RX1 yX1_crowded yX1_crowded, .code yX1_crowded cX1_crowded 2 (some .int), .methodLink RX1 73 yX1_excessOf, .instanceMethod yX1_excessOf, .selects RX1 yX1_excessOf yX1_excessOf, .code yX1_excessOf cX1_excessOf 6 (some .int), .fieldLink RX1 20 "TurnEstimatorModel" "weights" "[I"] ++ wsX10 ++ (vx_atM "java/lang/ArrayIndexOutOfBoundsException" ["java/lang/IndexOutOfBoundsException", "java/lang/RuntimeException", "java/lang/Exception"]).filter goodWord)
def wsX1_isPossible : List Cond := .code yX1_isPossible cX1_isPossible 1 (some .boolean) :: ([.fieldLink RX1 45 "TurnEstimatorModel" "thrown" "I", .methodLink RX1 80 yX1_arePossible, .instanceMethod yX1_arePossible, .selects RX1 yX1_arePossible yX1_arePossible, .initialized RX1, .code yX1_arePossible cX1_arePossible 1 (some .boolean), .methodLink RX1 69 yX1_difference, .instanceMethod yX1_difference, .selects RX1 yX1_difference yX1_difference, .code yX1_difference cX1_difference 3 (some .int), .fieldLink RX1 7 "TurnEstimatorModel" "arms" "I", .fieldLink RX1 13 "TurnEstimatorModel" "inflow" "[I", .fieldLink RX1 17 "TurnEstimatorModel" "outflow" "[I", .methodLink RX1 77 yX1_crowded, .instanceMethod yX1_crowded, .selects RX1 yX1_crowded yX1_crowded, .code yX1_crowded cX1_crowded 2 (some .int), .methodLink RX1 73 yX1_excessOf, .instanceMethod yX1_excessOf, .selects RX1 yX1_excessOf yX1_excessOf, .code yX1_excessOf cX1_excessOf 6 (some .int), .fieldLink RX1 20 "TurnEstimatorModel" "weights" "[I"] ++ wsX10 ++ (vx_atM "java/lang/ArrayIndexOutOfBoundsException" ["java/lang/IndexOutOfBoundsException", "java/lang/RuntimeException", "java/lang/Exception"]).filter goodWord)
def wsX1_crowdedSet : List Cond := .code yX1_crowdedSet cX1_crowdedSet 1 (some .int) :: ([.fieldLink RX1 45 "TurnEstimatorModel" "thrown" "I", .methodLink RX1 77 yX1_crowded, .instanceMethod yX1_crowded, .selects RX1 yX1_crowded yX1_crowded, .initialized RX1, .code yX1_crowded cX1_crowded 2 (some .int), .fieldLink RX1 7 "TurnEstimatorModel" "arms" "I", .methodLink RX1 73 yX1_excessOf, .instanceMethod yX1_excessOf, .selects RX1 yX1_excessOf yX1_excessOf, .code yX1_excessOf cX1_excessOf 6 (some .int), .fieldLink RX1 20 "TurnEstimatorModel" "weights" "[I", .fieldLink RX1 13 "TurnEstimatorModel" "inflow" "[I", .fieldLink RX1 17 "TurnEstimatorModel" "outflow" "[I"] ++ wsX10 ++ (vx_atM "java/lang/ArrayIndexOutOfBoundsException" ["java/lang/IndexOutOfBoundsException", "java/lang/RuntimeException", "java/lang/Exception"]).filter goodWord)
def wsX1_excess : List Cond := .code yX1_excess cX1_excess 2 (some .int) :: ([.fieldLink RX1 7 "TurnEstimatorModel" "arms" "I", .fieldLink RX1 45 "TurnEstimatorModel" "thrown" "I", .methodLink RX1 48 yX1_within, .static yX1_within, .initialized RX1, .code yX1_within cX1_within 3 (some .boolean), .methodLink RX1 73 yX1_excessOf, .instanceMethod yX1_excessOf, .selects RX1 yX1_excessOf yX1_excessOf, .code yX1_excessOf cX1_excessOf 6 (some .int), .fieldLink RX1 20 "TurnEstimatorModel" "weights" "[I", .fieldLink RX1 13 "TurnEstimatorModel" "inflow" "[I", .fieldLink RX1 17 "TurnEstimatorModel" "outflow" "[I"] ++ wsX10 ++ (vx_atM "java/lang/ArrayIndexOutOfBoundsException" ["java/lang/IndexOutOfBoundsException", "java/lang/RuntimeException", "java/lang/Exception"]).filter goodWord)
def wsX1_rowSum : List Cond := .code yX1_rowSum cX1_rowSum 5 (some .double) :: ([.fieldLink RX1 7 "TurnEstimatorModel" "arms" "I", .fieldLink RX1 23 "TurnEstimatorModel" "estimates" "[D"] ++ wsX10 ++ (vx_atM "java/lang/ArrayIndexOutOfBoundsException" ["java/lang/IndexOutOfBoundsException", "java/lang/RuntimeException", "java/lang/Exception"]).filter goodWord)
def wsX1_columnSum : List Cond := .code yX1_columnSum cX1_columnSum 5 (some .double) :: ([.fieldLink RX1 7 "TurnEstimatorModel" "arms" "I", .fieldLink RX1 23 "TurnEstimatorModel" "estimates" "[D"] ++ wsX10 ++ (vx_atM "java/lang/ArrayIndexOutOfBoundsException" ["java/lang/IndexOutOfBoundsException", "java/lang/RuntimeException", "java/lang/Exception"]).filter goodWord)
def wsX1_rowStep : List Cond := .code yX1_rowStep cX1_rowStep 7 none :: ([.fieldLink RX1 13 "TurnEstimatorModel" "inflow" "[I", .fieldLink RX1 7 "TurnEstimatorModel" "arms" "I", .fieldLink RX1 23 "TurnEstimatorModel" "estimates" "[D", .methodLink RX1 84 yX1_rowSum, .instanceMethod yX1_rowSum, .selects RX1 yX1_rowSum yX1_rowSum, .initialized RX1, .code yX1_rowSum cX1_rowSum 5 (some .double)] ++ wsX10 ++ (vx_atM "java/lang/ArrayIndexOutOfBoundsException" ["java/lang/IndexOutOfBoundsException", "java/lang/RuntimeException", "java/lang/Exception"]).filter goodWord)
def wsX1_columnStep : List Cond := .code yX1_columnStep cX1_columnStep 7 none :: ([.fieldLink RX1 17 "TurnEstimatorModel" "outflow" "[I", .fieldLink RX1 7 "TurnEstimatorModel" "arms" "I", .fieldLink RX1 23 "TurnEstimatorModel" "estimates" "[D", .methodLink RX1 88 yX1_columnSum, .instanceMethod yX1_columnSum, .selects RX1 yX1_columnSum yX1_columnSum, .initialized RX1, .code yX1_columnSum cX1_columnSum 5 (some .double)] ++ wsX10 ++ (vx_atM "java/lang/ArrayIndexOutOfBoundsException" ["java/lang/IndexOutOfBoundsException", "java/lang/RuntimeException", "java/lang/Exception"]).filter goodWord)
def wsX1_oneRound : List Cond := .code yX1_oneRound cX1_oneRound 2 none :: ([.fieldLink RX1 7 "TurnEstimatorModel" "arms" "I", .fieldLink RX1 52 "TurnEstimatorModel" "roundsDone" "I", .methodLink RX1 91 yX1_rowStep, .instanceMethod yX1_rowStep, .selects RX1 yX1_rowStep yX1_rowStep, .initialized RX1, .code yX1_rowStep cX1_rowStep 7 none, .fieldLink RX1 13 "TurnEstimatorModel" "inflow" "[I", .fieldLink RX1 23 "TurnEstimatorModel" "estimates" "[D", .methodLink RX1 84 yX1_rowSum, .instanceMethod yX1_rowSum, .selects RX1 yX1_rowSum yX1_rowSum, .code yX1_rowSum cX1_rowSum 5 (some .double), .methodLink RX1 95 yX1_columnStep, .instanceMethod yX1_columnStep, .selects RX1 yX1_columnStep yX1_columnStep, .code yX1_columnStep cX1_columnStep 7 none, .fieldLink RX1 17 "TurnEstimatorModel" "outflow" "[I", .methodLink RX1 88 yX1_columnSum, .instanceMethod yX1_columnSum, .selects RX1 yX1_columnSum yX1_columnSum, .code yX1_columnSum cX1_columnSum 5 (some .double)] ++ wsX10 ++ (vx_atM "java/lang/ArrayIndexOutOfBoundsException" ["java/lang/IndexOutOfBoundsException", "java/lang/RuntimeException", "java/lang/Exception"]).filter goodWord)
def wsX1_far : List Cond := .code yX1_far cX1_far 4 (some .double) :: ([])
def wsX1_misfitNow : List Cond := .code yX1_misfitNow cX1_misfitNow 8 (some .double) :: ([.fieldLink RX1 7 "TurnEstimatorModel" "arms" "I", .fieldLink RX1 13 "TurnEstimatorModel" "inflow" "[I", .fieldLink RX1 17 "TurnEstimatorModel" "outflow" "[I", .methodLink RX1 84 yX1_rowSum, .instanceMethod yX1_rowSum, .selects RX1 yX1_rowSum yX1_rowSum, .initialized RX1, .code yX1_rowSum cX1_rowSum 5 (some .double), .fieldLink RX1 23 "TurnEstimatorModel" "estimates" "[D", .methodLink RX1 98 yX1_far, .static yX1_far, .code yX1_far cX1_far 4 (some .double), .methodLink RX1 88 yX1_columnSum, .instanceMethod yX1_columnSum, .selects RX1 yX1_columnSum yX1_columnSum, .code yX1_columnSum cX1_columnSum 5 (some .double)] ++ wsX10 ++ (vx_atM "java/lang/ArrayIndexOutOfBoundsException" ["java/lang/IndexOutOfBoundsException", "java/lang/RuntimeException", "java/lang/Exception"]).filter goodWord)
def wsX1_iterate_r1 : List Cond := [Cond.fieldLink RX1 45 "TurnEstimatorModel" "thrown" "I", Cond.fieldLink RX1 52 "TurnEstimatorModel" "roundsDone" "I", Cond.methodLink RX1 48 yX1_within, Cond.static yX1_within, Cond.initialized RX1, Cond.code yX1_within cX1_within 3 (some .boolean), Cond.methodLink RX1 102 yX1_oneRound, Cond.instanceMethod yX1_oneRound, Cond.selects RX1 yX1_oneRound yX1_oneRound, Cond.code yX1_oneRound cX1_oneRound 2 none, Cond.fieldLink RX1 7 "TurnEstimatorModel" "arms" "I", Cond.methodLink RX1 91 yX1_rowStep, Cond.instanceMethod yX1_rowStep, Cond.selects RX1 yX1_rowStep yX1_rowStep, Cond.code yX1_rowStep cX1_rowStep 7 none, Cond.fieldLink RX1 13 "TurnEstimatorModel" "inflow" "[I", Cond.fieldLink RX1 23 "TurnEstimatorModel" "estimates" "[D", Cond.methodLink RX1 84 yX1_rowSum, Cond.instanceMethod yX1_rowSum, Cond.selects RX1 yX1_rowSum yX1_rowSum, Cond.code yX1_rowSum cX1_rowSum 5 (some .double), Cond.methodLink RX1 95 yX1_columnStep, Cond.instanceMethod yX1_columnStep, Cond.selects RX1 yX1_columnStep yX1_columnStep]
def wsX1_iterate_r2 : List Cond := [Cond.code yX1_columnStep cX1_columnStep 7 none, Cond.fieldLink RX1 17 "TurnEstimatorModel" "outflow" "[I", Cond.methodLink RX1 88 yX1_columnSum, Cond.instanceMethod yX1_columnSum, Cond.selects RX1 yX1_columnSum yX1_columnSum, Cond.code yX1_columnSum cX1_columnSum 5 (some .double)]
def wsX1_iterate : List Cond := .code yX1_iterate cX1_iterate 3 (some .int) :: ((wsX1_iterate_r1 ++ wsX1_iterate_r2) ++ wsX10 ++ (vx_atM "java/lang/ArrayIndexOutOfBoundsException" ["java/lang/IndexOutOfBoundsException", "java/lang/RuntimeException", "java/lang/Exception"]).filter goodWord)
def wsX1_fit_r1 : List Cond := [Cond.constant RX1 105 (100000), Cond.fieldLink RX1 45 "TurnEstimatorModel" "thrown" "I", Cond.constantDouble RX1 110 (4652007308841189376), Cond.methodLink RX1 48 yX1_within, Cond.static yX1_within, Cond.initialized RX1, Cond.code yX1_within cX1_within 3 (some .boolean), Cond.methodLink RX1 106 yX1_misfitNow, Cond.instanceMethod yX1_misfitNow, Cond.selects RX1 yX1_misfitNow yX1_misfitNow, Cond.code yX1_misfitNow cX1_misfitNow 8 (some .double), Cond.fieldLink RX1 7 "TurnEstimatorModel" "arms" "I", Cond.fieldLink RX1 13 "TurnEstimatorModel" "inflow" "[I", Cond.fieldLink RX1 17 "TurnEstimatorModel" "outflow" "[I", Cond.methodLink RX1 84 yX1_rowSum, Cond.instanceMethod yX1_rowSum, Cond.selects RX1 yX1_rowSum yX1_rowSum, Cond.code yX1_rowSum cX1_rowSum 5 (some .double), Cond.fieldLink RX1 23 "TurnEstimatorModel" "estimates" "[D", Cond.methodLink RX1 98 yX1_far, Cond.static yX1_far, Cond.code yX1_far cX1_far 4 (some .double), Cond.methodLink RX1 88 yX1_columnSum, Cond.instanceMethod yX1_columnSum]
def wsX1_fit_r2 : List Cond := [Cond.selects RX1 yX1_columnSum yX1_columnSum, Cond.code yX1_columnSum cX1_columnSum 5 (some .double), Cond.methodLink RX1 102 yX1_oneRound, Cond.instanceMethod yX1_oneRound, Cond.selects RX1 yX1_oneRound yX1_oneRound, Cond.code yX1_oneRound cX1_oneRound 2 none, Cond.fieldLink RX1 52 "TurnEstimatorModel" "roundsDone" "I", Cond.methodLink RX1 91 yX1_rowStep, Cond.instanceMethod yX1_rowStep, Cond.selects RX1 yX1_rowStep yX1_rowStep, Cond.code yX1_rowStep cX1_rowStep 7 none, Cond.methodLink RX1 95 yX1_columnStep, Cond.instanceMethod yX1_columnStep, Cond.selects RX1 yX1_columnStep yX1_columnStep, Cond.code yX1_columnStep cX1_columnStep 7 none]
def wsX1_fit : List Cond := .code yX1_fit cX1_fit 4 (some .int) :: ((wsX1_fit_r1 ++ wsX1_fit_r2) ++ wsX10 ++ (vx_atM "java/lang/ArrayIndexOutOfBoundsException" ["java/lang/IndexOutOfBoundsException", "java/lang/RuntimeException", "java/lang/Exception"]).filter goodWord)
def wsX1_reset : List Cond := .code yX1_reset cX1_reset 2 (some .int) :: ([.fieldLink RX1 45 "TurnEstimatorModel" "thrown" "I", .fieldLink RX1 52 "TurnEstimatorModel" "roundsDone" "I", .methodLink RX1 55 yX1_layWeights, .instanceMethod yX1_layWeights, .selects RX1 yX1_layWeights yX1_layWeights, .initialized RX1, .code yX1_layWeights cX1_layWeights 2 none, .fieldLink RX1 23 "TurnEstimatorModel" "estimates" "[D", .fieldLink RX1 20 "TurnEstimatorModel" "weights" "[I"] ++ wsX10 ++ (vx_atM "java/lang/ArrayIndexOutOfBoundsException" ["java/lang/IndexOutOfBoundsException", "java/lang/RuntimeException", "java/lang/Exception"]).filter goodWord)
def wsX1_rounds : List Cond := .code yX1_rounds cX1_rounds 1 (some .int) :: ([.fieldLink RX1 45 "TurnEstimatorModel" "thrown" "I", .fieldLink RX1 52 "TurnEstimatorModel" "roundsDone" "I"] ++ wsX10)
def wsX1_areArms : List Cond := .code yX1_areArms cX1_areArms 3 (some .boolean) :: ([.methodLink RX1 58 yX1_isArm, .instanceMethod yX1_isArm, .selects RX1 yX1_isArm yX1_isArm, .initialized RX1, .code yX1_isArm cX1_isArm 2 (some .boolean), .fieldLink RX1 7 "TurnEstimatorModel" "arms" "I", .methodLink RX1 48 yX1_within, .static yX1_within, .code yX1_within cX1_within 3 (some .boolean)] ++ wsX10)
def wsX1_estimate : List Cond := .code yX1_estimate cX1_estimate 3 (some .double) :: ([.fieldLink RX1 45 "TurnEstimatorModel" "thrown" "I", .fieldLink RX1 23 "TurnEstimatorModel" "estimates" "[D", .methodLink RX1 112 yX1_areArms, .instanceMethod yX1_areArms, .selects RX1 yX1_areArms yX1_areArms, .initialized RX1, .code yX1_areArms cX1_areArms 3 (some .boolean), .methodLink RX1 58 yX1_isArm, .instanceMethod yX1_isArm, .selects RX1 yX1_isArm yX1_isArm, .code yX1_isArm cX1_isArm 2 (some .boolean), .fieldLink RX1 7 "TurnEstimatorModel" "arms" "I", .methodLink RX1 48 yX1_within, .static yX1_within, .code yX1_within cX1_within 3 (some .boolean)] ++ wsX10 ++ (vx_atM "java/lang/ArrayIndexOutOfBoundsException" ["java/lang/IndexOutOfBoundsException", "java/lang/RuntimeException", "java/lang/Exception"]).filter goodWord)
def wsX1_sum : List Cond := .code yX1_sum cX1_sum 3 (some .double) :: ([.fieldLink RX1 45 "TurnEstimatorModel" "thrown" "I", .methodLink RX1 58 yX1_isArm, .instanceMethod yX1_isArm, .selects RX1 yX1_isArm yX1_isArm, .initialized RX1, .code yX1_isArm cX1_isArm 2 (some .boolean), .fieldLink RX1 7 "TurnEstimatorModel" "arms" "I", .methodLink RX1 48 yX1_within, .static yX1_within, .code yX1_within cX1_within 3 (some .boolean), .methodLink RX1 88 yX1_columnSum, .instanceMethod yX1_columnSum, .selects RX1 yX1_columnSum yX1_columnSum, .code yX1_columnSum cX1_columnSum 5 (some .double), .fieldLink RX1 23 "TurnEstimatorModel" "estimates" "[D", .methodLink RX1 84 yX1_rowSum, .instanceMethod yX1_rowSum, .selects RX1 yX1_rowSum yX1_rowSum, .code yX1_rowSum cX1_rowSum 5 (some .double)] ++ wsX10 ++ (vx_atM "java/lang/ArrayIndexOutOfBoundsException" ["java/lang/IndexOutOfBoundsException", "java/lang/RuntimeException", "java/lang/Exception"]).filter goodWord)
def wsX1_misfit : List Cond := .code yX1_misfit cX1_misfit 1 (some .double) :: ([.fieldLink RX1 45 "TurnEstimatorModel" "thrown" "I", .methodLink RX1 106 yX1_misfitNow, .instanceMethod yX1_misfitNow, .selects RX1 yX1_misfitNow yX1_misfitNow, .initialized RX1, .code yX1_misfitNow cX1_misfitNow 8 (some .double), .fieldLink RX1 7 "TurnEstimatorModel" "arms" "I", .fieldLink RX1 13 "TurnEstimatorModel" "inflow" "[I", .fieldLink RX1 17 "TurnEstimatorModel" "outflow" "[I", .methodLink RX1 84 yX1_rowSum, .instanceMethod yX1_rowSum, .selects RX1 yX1_rowSum yX1_rowSum, .code yX1_rowSum cX1_rowSum 5 (some .double), .fieldLink RX1 23 "TurnEstimatorModel" "estimates" "[D", .methodLink RX1 98 yX1_far, .static yX1_far, .code yX1_far cX1_far 4 (some .double), .methodLink RX1 88 yX1_columnSum, .instanceMethod yX1_columnSum, .selects RX1 yX1_columnSum yX1_columnSum, .code yX1_columnSum cX1_columnSum 5 (some .double)] ++ wsX10 ++ (vx_atM "java/lang/ArrayIndexOutOfBoundsException" ["java/lang/IndexOutOfBoundsException", "java/lang/RuntimeException", "java/lang/Exception"]).filter goodWord)
def wsX1_share : List Cond := .code yX1_share cX1_share 3 (some .double) :: ([.fieldLink RX1 45 "TurnEstimatorModel" "thrown" "I", .fieldLink RX1 23 "TurnEstimatorModel" "estimates" "[D", .methodLink RX1 112 yX1_areArms, .instanceMethod yX1_areArms, .selects RX1 yX1_areArms yX1_areArms, .initialized RX1, .code yX1_areArms cX1_areArms 3 (some .boolean), .methodLink RX1 58 yX1_isArm, .instanceMethod yX1_isArm, .selects RX1 yX1_isArm yX1_isArm, .code yX1_isArm cX1_isArm 2 (some .boolean), .fieldLink RX1 7 "TurnEstimatorModel" "arms" "I", .methodLink RX1 48 yX1_within, .static yX1_within, .code yX1_within cX1_within 3 (some .boolean), .methodLink RX1 84 yX1_rowSum, .instanceMethod yX1_rowSum, .selects RX1 yX1_rowSum yX1_rowSum, .code yX1_rowSum cX1_rowSum 5 (some .double)] ++ wsX10 ++ (vx_atM "java/lang/ArrayIndexOutOfBoundsException" ["java/lang/IndexOutOfBoundsException", "java/lang/RuntimeException", "java/lang/Exception"]).filter goodWord)
def wsX1_crossRatio : List Cond := .code yX1_crossRatio cX1_crossRatio 9 (some .double) :: ([.fieldLink RX1 45 "TurnEstimatorModel" "thrown" "I", .fieldLink RX1 23 "TurnEstimatorModel" "estimates" "[D", .methodLink RX1 112 yX1_areArms, .instanceMethod yX1_areArms, .selects RX1 yX1_areArms yX1_areArms, .initialized RX1, .code yX1_areArms cX1_areArms 3 (some .boolean), .methodLink RX1 58 yX1_isArm, .instanceMethod yX1_isArm, .selects RX1 yX1_isArm yX1_isArm, .code yX1_isArm cX1_isArm 2 (some .boolean), .fieldLink RX1 7 "TurnEstimatorModel" "arms" "I", .methodLink RX1 48 yX1_within, .static yX1_within, .code yX1_within cX1_within 3 (some .boolean)] ++ wsX10 ++ (vx_atM "java/lang/ArrayIndexOutOfBoundsException" ["java/lang/IndexOutOfBoundsException", "java/lang/RuntimeException", "java/lang/Exception"]).filter goodWord)
def wsX1_busiest : List Cond := .code yX1_busiest cX1_busiest 8 (some .int) :: ([.fieldLink RX1 7 "TurnEstimatorModel" "arms" "I", .fieldLink RX1 23 "TurnEstimatorModel" "estimates" "[D"] ++ wsX10 ++ (vx_atM "java/lang/ArrayIndexOutOfBoundsException" ["java/lang/IndexOutOfBoundsException", "java/lang/RuntimeException", "java/lang/Exception"]).filter goodWord)
def wsX1_busiestTurn : List Cond := .code yX1_busiestTurn cX1_busiestTurn 1 (some .int) :: ([.fieldLink RX1 45 "TurnEstimatorModel" "thrown" "I", .methodLink RX1 116 yX1_busiest, .instanceMethod yX1_busiest, .selects RX1 yX1_busiest yX1_busiest, .initialized RX1, .code yX1_busiest cX1_busiest 8 (some .int), .fieldLink RX1 7 "TurnEstimatorModel" "arms" "I", .fieldLink RX1 23 "TurnEstimatorModel" "estimates" "[D"] ++ wsX10 ++ (vx_atM "java/lang/ArrayIndexOutOfBoundsException" ["java/lang/IndexOutOfBoundsException", "java/lang/RuntimeException", "java/lang/Exception"]).filter goodWord)
def wsX1_nextOf : List Cond := .code yX1_nextOf cX1_nextOf 5 (some .int) :: ([.fieldLink RX1 7 "TurnEstimatorModel" "arms" "I", .fieldLink RX1 20 "TurnEstimatorModel" "weights" "[I", .fieldLink RX1 30 "TurnEstimatorModel" "fraction" "[D"] ++ wsX10 ++ (vx_atM "java/lang/ArrayIndexOutOfBoundsException" ["java/lang/IndexOutOfBoundsException", "java/lang/RuntimeException", "java/lang/Exception"]).filter goodWord)
def wsX1_roundRow : List Cond := .code yX1_roundRow cX1_roundRow 8 none :: ([.fieldLink RX1 7 "TurnEstimatorModel" "arms" "I", .fieldLink RX1 23 "TurnEstimatorModel" "estimates" "[D", .fieldLink RX1 13 "TurnEstimatorModel" "inflow" "[I", .fieldLink RX1 27 "TurnEstimatorModel" "whole" "[I", .fieldLink RX1 30 "TurnEstimatorModel" "fraction" "[D", .constantDouble RX1 122 (13830554455654793216), .methodLink RX1 84 yX1_rowSum, .instanceMethod yX1_rowSum, .selects RX1 yX1_rowSum yX1_rowSum, .initialized RX1, .code yX1_rowSum cX1_rowSum 5 (some .double), .methodLink RX1 119 yX1_nextOf, .instanceMethod yX1_nextOf, .selects RX1 yX1_nextOf yX1_nextOf, .code yX1_nextOf cX1_nextOf 5 (some .int), .fieldLink RX1 20 "TurnEstimatorModel" "weights" "[I"] ++ wsX10 ++ (vx_atM "java/lang/ArrayIndexOutOfBoundsException" ["java/lang/IndexOutOfBoundsException", "java/lang/RuntimeException", "java/lang/Exception"]).filter goodWord)
def wsX1_layWhole : List Cond := .code yX1_layWhole cX1_layWhole 2 none :: ([.fieldLink RX1 7 "TurnEstimatorModel" "arms" "I", .methodLink RX1 124 yX1_roundRow, .instanceMethod yX1_roundRow, .selects RX1 yX1_roundRow yX1_roundRow, .initialized RX1, .code yX1_roundRow cX1_roundRow 8 none, .fieldLink RX1 23 "TurnEstimatorModel" "estimates" "[D", .fieldLink RX1 13 "TurnEstimatorModel" "inflow" "[I", .fieldLink RX1 27 "TurnEstimatorModel" "whole" "[I", .fieldLink RX1 30 "TurnEstimatorModel" "fraction" "[D", .constantDouble RX1 122 (13830554455654793216), .methodLink RX1 84 yX1_rowSum, .instanceMethod yX1_rowSum, .selects RX1 yX1_rowSum yX1_rowSum, .code yX1_rowSum cX1_rowSum 5 (some .double), .methodLink RX1 119 yX1_nextOf, .instanceMethod yX1_nextOf, .selects RX1 yX1_nextOf yX1_nextOf, .code yX1_nextOf cX1_nextOf 5 (some .int), .fieldLink RX1 20 "TurnEstimatorModel" "weights" "[I"] ++ wsX10 ++ (vx_atM "java/lang/ArrayIndexOutOfBoundsException" ["java/lang/IndexOutOfBoundsException", "java/lang/RuntimeException", "java/lang/Exception"]).filter goodWord)
def wsX1_rounded_r1 : List Cond := [Cond.fieldLink RX1 45 "TurnEstimatorModel" "thrown" "I", Cond.fieldLink RX1 27 "TurnEstimatorModel" "whole" "[I", Cond.methodLink RX1 112 yX1_areArms, Cond.instanceMethod yX1_areArms, Cond.selects RX1 yX1_areArms yX1_areArms, Cond.initialized RX1, Cond.code yX1_areArms cX1_areArms 3 (some .boolean), Cond.methodLink RX1 58 yX1_isArm, Cond.instanceMethod yX1_isArm, Cond.selects RX1 yX1_isArm yX1_isArm, Cond.code yX1_isArm cX1_isArm 2 (some .boolean), Cond.fieldLink RX1 7 "TurnEstimatorModel" "arms" "I", Cond.methodLink RX1 48 yX1_within, Cond.static yX1_within, Cond.code yX1_within cX1_within 3 (some .boolean), Cond.methodLink RX1 124 yX1_roundRow, Cond.instanceMethod yX1_roundRow, Cond.selects RX1 yX1_roundRow yX1_roundRow, Cond.code yX1_roundRow cX1_roundRow 8 none, Cond.fieldLink RX1 23 "TurnEstimatorModel" "estimates" "[D", Cond.fieldLink RX1 13 "TurnEstimatorModel" "inflow" "[I", Cond.fieldLink RX1 30 "TurnEstimatorModel" "fraction" "[D", Cond.constantDouble RX1 122 (13830554455654793216), Cond.methodLink RX1 84 yX1_rowSum]
def wsX1_rounded_r2 : List Cond := [Cond.instanceMethod yX1_rowSum, Cond.selects RX1 yX1_rowSum yX1_rowSum, Cond.code yX1_rowSum cX1_rowSum 5 (some .double), Cond.methodLink RX1 119 yX1_nextOf, Cond.instanceMethod yX1_nextOf, Cond.selects RX1 yX1_nextOf yX1_nextOf, Cond.code yX1_nextOf cX1_nextOf 5 (some .int), Cond.fieldLink RX1 20 "TurnEstimatorModel" "weights" "[I"]
def wsX1_rounded : List Cond := .code yX1_rounded cX1_rounded 3 (some .int) :: ((wsX1_rounded_r1 ++ wsX1_rounded_r2) ++ wsX10 ++ (vx_atM "java/lang/ArrayIndexOutOfBoundsException" ["java/lang/IndexOutOfBoundsException", "java/lang/RuntimeException", "java/lang/Exception"]).filter goodWord)
def wsX1_wholeMisfit_r1 : List Cond := [Cond.fieldLink RX1 7 "TurnEstimatorModel" "arms" "I", Cond.fieldLink RX1 17 "TurnEstimatorModel" "outflow" "[I", Cond.fieldLink RX1 27 "TurnEstimatorModel" "whole" "[I", Cond.methodLink RX1 127 yX1_layWhole, Cond.instanceMethod yX1_layWhole, Cond.selects RX1 yX1_layWhole yX1_layWhole, Cond.initialized RX1, Cond.code yX1_layWhole cX1_layWhole 2 none, Cond.methodLink RX1 124 yX1_roundRow, Cond.instanceMethod yX1_roundRow, Cond.selects RX1 yX1_roundRow yX1_roundRow, Cond.code yX1_roundRow cX1_roundRow 8 none, Cond.fieldLink RX1 23 "TurnEstimatorModel" "estimates" "[D", Cond.fieldLink RX1 13 "TurnEstimatorModel" "inflow" "[I", Cond.fieldLink RX1 30 "TurnEstimatorModel" "fraction" "[D", Cond.constantDouble RX1 122 (13830554455654793216), Cond.methodLink RX1 84 yX1_rowSum, Cond.instanceMethod yX1_rowSum, Cond.selects RX1 yX1_rowSum yX1_rowSum, Cond.code yX1_rowSum cX1_rowSum 5 (some .double), Cond.methodLink RX1 119 yX1_nextOf, Cond.instanceMethod yX1_nextOf, Cond.selects RX1 yX1_nextOf yX1_nextOf, Cond.code yX1_nextOf cX1_nextOf 5 (some .int)]
def wsX1_wholeMisfit_r2 : List Cond := [Cond.fieldLink RX1 20 "TurnEstimatorModel" "weights" "[I"]
def wsX1_wholeMisfit : List Cond := .code yX1_wholeMisfit cX1_wholeMisfit 5 (some .int) :: ((wsX1_wholeMisfit_r1 ++ wsX1_wholeMisfit_r2) ++ wsX10 ++ (vx_atM "java/lang/ArrayIndexOutOfBoundsException" ["java/lang/IndexOutOfBoundsException", "java/lang/RuntimeException", "java/lang/Exception"]).filter goodWord)
def wsX1_roundedMisfit_r1 : List Cond := [Cond.fieldLink RX1 45 "TurnEstimatorModel" "thrown" "I", Cond.methodLink RX1 130 yX1_wholeMisfit, Cond.instanceMethod yX1_wholeMisfit, Cond.selects RX1 yX1_wholeMisfit yX1_wholeMisfit, Cond.initialized RX1, Cond.code yX1_wholeMisfit cX1_wholeMisfit 5 (some .int), Cond.fieldLink RX1 7 "TurnEstimatorModel" "arms" "I", Cond.fieldLink RX1 17 "TurnEstimatorModel" "outflow" "[I", Cond.fieldLink RX1 27 "TurnEstimatorModel" "whole" "[I", Cond.methodLink RX1 127 yX1_layWhole, Cond.instanceMethod yX1_layWhole, Cond.selects RX1 yX1_layWhole yX1_layWhole, Cond.code yX1_layWhole cX1_layWhole 2 none, Cond.methodLink RX1 124 yX1_roundRow, Cond.instanceMethod yX1_roundRow, Cond.selects RX1 yX1_roundRow yX1_roundRow, Cond.code yX1_roundRow cX1_roundRow 8 none, Cond.fieldLink RX1 23 "TurnEstimatorModel" "estimates" "[D", Cond.fieldLink RX1 13 "TurnEstimatorModel" "inflow" "[I", Cond.fieldLink RX1 30 "TurnEstimatorModel" "fraction" "[D", Cond.constantDouble RX1 122 (13830554455654793216), Cond.methodLink RX1 84 yX1_rowSum, Cond.instanceMethod yX1_rowSum, Cond.selects RX1 yX1_rowSum yX1_rowSum]
def wsX1_roundedMisfit_r2 : List Cond := [Cond.code yX1_rowSum cX1_rowSum 5 (some .double), Cond.methodLink RX1 119 yX1_nextOf, Cond.instanceMethod yX1_nextOf, Cond.selects RX1 yX1_nextOf yX1_nextOf, Cond.code yX1_nextOf cX1_nextOf 5 (some .int), Cond.fieldLink RX1 20 "TurnEstimatorModel" "weights" "[I"]
def wsX1_roundedMisfit : List Cond := .code yX1_roundedMisfit cX1_roundedMisfit 1 (some .int) :: ((wsX1_roundedMisfit_r1 ++ wsX1_roundedMisfit_r2) ++ wsX10 ++ (vx_atM "java/lang/ArrayIndexOutOfBoundsException" ["java/lang/IndexOutOfBoundsException", "java/lang/RuntimeException", "java/lang/Exception"]).filter goodWord)
def wsX1_leftBy : List Cond := .code yX1_leftBy cX1_leftBy 8 (some .int) :: ([.fieldLink RX1 7 "TurnEstimatorModel" "arms" "I", .fieldLink RX1 20 "TurnEstimatorModel" "weights" "[I", .fieldLink RX1 39 "TurnEstimatorModel" "columnLeft" "[I", .fieldLink RX1 36 "TurnEstimatorModel" "rowLeft" "[I"] ++ wsX10 ++ (vx_atM "java/lang/ArrayIndexOutOfBoundsException" ["java/lang/IndexOutOfBoundsException", "java/lang/RuntimeException", "java/lang/Exception"]).filter goodWord)
def wsX1_layCell : List Cond := .code yX1_layCell cX1_layCell 6 none :: ([.fieldLink RX1 36 "TurnEstimatorModel" "rowLeft" "[I", .fieldLink RX1 39 "TurnEstimatorModel" "columnLeft" "[I", .fieldLink RX1 7 "TurnEstimatorModel" "arms" "I", .fieldLink RX1 20 "TurnEstimatorModel" "weights" "[I", .fieldLink RX1 33 "TurnEstimatorModel" "table" "[I", .methodLink RX1 133 yX1_leftBy, .instanceMethod yX1_leftBy, .selects RX1 yX1_leftBy yX1_leftBy, .initialized RX1, .code yX1_leftBy cX1_leftBy 8 (some .int)] ++ wsX10 ++ (vx_atM "java/lang/ArrayIndexOutOfBoundsException" ["java/lang/IndexOutOfBoundsException", "java/lang/RuntimeException", "java/lang/Exception"]).filter goodWord)
def wsX1_layTable : List Cond := .code yX1_layTable cX1_layTable 3 none :: ([.fieldLink RX1 7 "TurnEstimatorModel" "arms" "I", .fieldLink RX1 36 "TurnEstimatorModel" "rowLeft" "[I", .fieldLink RX1 13 "TurnEstimatorModel" "inflow" "[I", .fieldLink RX1 39 "TurnEstimatorModel" "columnLeft" "[I", .fieldLink RX1 17 "TurnEstimatorModel" "outflow" "[I", .methodLink RX1 136 yX1_layCell, .instanceMethod yX1_layCell, .selects RX1 yX1_layCell yX1_layCell, .initialized RX1, .code yX1_layCell cX1_layCell 6 none, .fieldLink RX1 20 "TurnEstimatorModel" "weights" "[I", .fieldLink RX1 33 "TurnEstimatorModel" "table" "[I", .methodLink RX1 133 yX1_leftBy, .instanceMethod yX1_leftBy, .selects RX1 yX1_leftBy yX1_leftBy, .code yX1_leftBy cX1_leftBy 8 (some .int)] ++ wsX10 ++ (vx_atM "java/lang/ArrayIndexOutOfBoundsException" ["java/lang/IndexOutOfBoundsException", "java/lang/RuntimeException", "java/lang/Exception"]).filter goodWord)
def wsX1_possibleNow_r1 : List Cond := [Cond.fieldLink RX1 33 "TurnEstimatorModel" "table" "[I", Cond.methodLink RX1 80 yX1_arePossible, Cond.instanceMethod yX1_arePossible, Cond.selects RX1 yX1_arePossible yX1_arePossible, Cond.initialized RX1, Cond.code yX1_arePossible cX1_arePossible 1 (some .boolean), Cond.methodLink RX1 69 yX1_difference, Cond.instanceMethod yX1_difference, Cond.selects RX1 yX1_difference yX1_difference, Cond.code yX1_difference cX1_difference 3 (some .int), Cond.fieldLink RX1 7 "TurnEstimatorModel" "arms" "I", Cond.fieldLink RX1 13 "TurnEstimatorModel" "inflow" "[I", Cond.fieldLink RX1 17 "TurnEstimatorModel" "outflow" "[I", Cond.methodLink RX1 77 yX1_crowded, Cond.instanceMethod yX1_crowded, Cond.selects RX1 yX1_crowded yX1_crowded, Cond.code yX1_crowded cX1_crowded 2 (some .int), Cond.methodLink RX1 73 yX1_excessOf, Cond.instanceMethod yX1_excessOf, Cond.selects RX1 yX1_excessOf yX1_excessOf, Cond.code yX1_excessOf cX1_excessOf 6 (some .int), Cond.fieldLink RX1 20 "TurnEstimatorModel" "weights" "[I", Cond.methodLink RX1 140 yX1_layTable, Cond.instanceMethod yX1_layTable]
def wsX1_possibleNow_r2 : List Cond := [Cond.selects RX1 yX1_layTable yX1_layTable, Cond.code yX1_layTable cX1_layTable 3 none, Cond.fieldLink RX1 36 "TurnEstimatorModel" "rowLeft" "[I", Cond.fieldLink RX1 39 "TurnEstimatorModel" "columnLeft" "[I", Cond.methodLink RX1 136 yX1_layCell, Cond.instanceMethod yX1_layCell, Cond.selects RX1 yX1_layCell yX1_layCell, Cond.code yX1_layCell cX1_layCell 6 none, Cond.methodLink RX1 133 yX1_leftBy, Cond.instanceMethod yX1_leftBy, Cond.selects RX1 yX1_leftBy yX1_leftBy, Cond.code yX1_leftBy cX1_leftBy 8 (some .int)]
def wsX1_possibleNow : List Cond := .code yX1_possibleNow cX1_possibleNow 3 (some .int) :: ((wsX1_possibleNow_r1 ++ wsX1_possibleNow_r2) ++ wsX10 ++ (vx_atM "java/lang/ArrayIndexOutOfBoundsException" ["java/lang/IndexOutOfBoundsException", "java/lang/RuntimeException", "java/lang/Exception"]).filter goodWord)
def wsX1_possible_r1 : List Cond := [Cond.fieldLink RX1 45 "TurnEstimatorModel" "thrown" "I", Cond.methodLink RX1 112 yX1_areArms, Cond.instanceMethod yX1_areArms, Cond.selects RX1 yX1_areArms yX1_areArms, Cond.initialized RX1, Cond.code yX1_areArms cX1_areArms 3 (some .boolean), Cond.methodLink RX1 58 yX1_isArm, Cond.instanceMethod yX1_isArm, Cond.selects RX1 yX1_isArm yX1_isArm, Cond.code yX1_isArm cX1_isArm 2 (some .boolean), Cond.fieldLink RX1 7 "TurnEstimatorModel" "arms" "I", Cond.methodLink RX1 48 yX1_within, Cond.static yX1_within, Cond.code yX1_within cX1_within 3 (some .boolean), Cond.methodLink RX1 143 yX1_possibleNow, Cond.instanceMethod yX1_possibleNow, Cond.selects RX1 yX1_possibleNow yX1_possibleNow, Cond.code yX1_possibleNow cX1_possibleNow 3 (some .int), Cond.fieldLink RX1 33 "TurnEstimatorModel" "table" "[I", Cond.methodLink RX1 80 yX1_arePossible, Cond.instanceMethod yX1_arePossible, Cond.selects RX1 yX1_arePossible yX1_arePossible, Cond.code yX1_arePossible cX1_arePossible 1 (some .boolean), Cond.methodLink RX1 69 yX1_difference]
def wsX1_possible_r2 : List Cond := [Cond.instanceMethod yX1_difference, Cond.selects RX1 yX1_difference yX1_difference, Cond.code yX1_difference cX1_difference 3 (some .int), Cond.fieldLink RX1 13 "TurnEstimatorModel" "inflow" "[I", Cond.fieldLink RX1 17 "TurnEstimatorModel" "outflow" "[I", Cond.methodLink RX1 77 yX1_crowded, Cond.instanceMethod yX1_crowded, Cond.selects RX1 yX1_crowded yX1_crowded, Cond.code yX1_crowded cX1_crowded 2 (some .int), Cond.methodLink RX1 73 yX1_excessOf, Cond.instanceMethod yX1_excessOf, Cond.selects RX1 yX1_excessOf yX1_excessOf, Cond.code yX1_excessOf cX1_excessOf 6 (some .int), Cond.fieldLink RX1 20 "TurnEstimatorModel" "weights" "[I", Cond.methodLink RX1 140 yX1_layTable, Cond.instanceMethod yX1_layTable, Cond.selects RX1 yX1_layTable yX1_layTable, Cond.code yX1_layTable cX1_layTable 3 none, Cond.fieldLink RX1 36 "TurnEstimatorModel" "rowLeft" "[I", Cond.fieldLink RX1 39 "TurnEstimatorModel" "columnLeft" "[I", Cond.methodLink RX1 136 yX1_layCell, Cond.instanceMethod yX1_layCell, Cond.selects RX1 yX1_layCell yX1_layCell, Cond.code yX1_layCell cX1_layCell 6 none]
def wsX1_possible_r3 : List Cond := [Cond.methodLink RX1 133 yX1_leftBy, Cond.instanceMethod yX1_leftBy, Cond.selects RX1 yX1_leftBy yX1_leftBy, Cond.code yX1_leftBy cX1_leftBy 8 (some .int)]
def wsX1_possible : List Cond := .code yX1_possible cX1_possible 3 (some .int) :: ((wsX1_possible_r1 ++ (wsX1_possible_r2 ++ wsX1_possible_r3)) ++ wsX10 ++ (vx_atM "java/lang/ArrayIndexOutOfBoundsException" ["java/lang/IndexOutOfBoundsException", "java/lang/RuntimeException", "java/lang/Exception"]).filter goodWord)
def wsX1_mix : List Cond := .code yX1_mix cX1_mix 3 none :: ([.constantLong RX1 146 (31), .fieldLink RX1 148 "TurnEstimatorModel" "h" "J"] ++ wsX10)
def wsX1_mixTurns_r1 : List Cond := [Cond.fieldLink RX1 7 "TurnEstimatorModel" "arms" "I", Cond.fieldLink RX1 20 "TurnEstimatorModel" "weights" "[I", Cond.fieldLink RX1 23 "TurnEstimatorModel" "estimates" "[D", Cond.constantDouble RX1 110 (4652007308841189376), Cond.fieldLink RX1 27 "TurnEstimatorModel" "whole" "[I", Cond.fieldLink RX1 33 "TurnEstimatorModel" "table" "[I", Cond.constantLong RX1 156 (-1), Cond.methodLink RX1 127 yX1_layWhole, Cond.instanceMethod yX1_layWhole, Cond.selects RX1 yX1_layWhole yX1_layWhole, Cond.initialized RX1, Cond.code yX1_layWhole cX1_layWhole 2 none, Cond.methodLink RX1 124 yX1_roundRow, Cond.instanceMethod yX1_roundRow, Cond.selects RX1 yX1_roundRow yX1_roundRow, Cond.code yX1_roundRow cX1_roundRow 8 none, Cond.fieldLink RX1 13 "TurnEstimatorModel" "inflow" "[I", Cond.fieldLink RX1 30 "TurnEstimatorModel" "fraction" "[D", Cond.constantDouble RX1 122 (13830554455654793216), Cond.methodLink RX1 84 yX1_rowSum, Cond.instanceMethod yX1_rowSum, Cond.selects RX1 yX1_rowSum yX1_rowSum, Cond.code yX1_rowSum cX1_rowSum 5 (some .double), Cond.methodLink RX1 119 yX1_nextOf]
def wsX1_mixTurns_r2 : List Cond := [Cond.instanceMethod yX1_nextOf, Cond.selects RX1 yX1_nextOf yX1_nextOf, Cond.code yX1_nextOf cX1_nextOf 5 (some .int), Cond.methodLink RX1 80 yX1_arePossible, Cond.instanceMethod yX1_arePossible, Cond.selects RX1 yX1_arePossible yX1_arePossible, Cond.code yX1_arePossible cX1_arePossible 1 (some .boolean), Cond.methodLink RX1 69 yX1_difference, Cond.instanceMethod yX1_difference, Cond.selects RX1 yX1_difference yX1_difference, Cond.code yX1_difference cX1_difference 3 (some .int), Cond.fieldLink RX1 17 "TurnEstimatorModel" "outflow" "[I", Cond.methodLink RX1 77 yX1_crowded, Cond.instanceMethod yX1_crowded, Cond.selects RX1 yX1_crowded yX1_crowded, Cond.code yX1_crowded cX1_crowded 2 (some .int), Cond.methodLink RX1 73 yX1_excessOf, Cond.instanceMethod yX1_excessOf, Cond.selects RX1 yX1_excessOf yX1_excessOf, Cond.code yX1_excessOf cX1_excessOf 6 (some .int), Cond.methodLink RX1 140 yX1_layTable, Cond.instanceMethod yX1_layTable, Cond.selects RX1 yX1_layTable yX1_layTable, Cond.code yX1_layTable cX1_layTable 3 none]
def wsX1_mixTurns_r3 : List Cond := [Cond.fieldLink RX1 36 "TurnEstimatorModel" "rowLeft" "[I", Cond.fieldLink RX1 39 "TurnEstimatorModel" "columnLeft" "[I", Cond.methodLink RX1 136 yX1_layCell, Cond.instanceMethod yX1_layCell, Cond.selects RX1 yX1_layCell yX1_layCell, Cond.code yX1_layCell cX1_layCell 6 none, Cond.methodLink RX1 133 yX1_leftBy, Cond.instanceMethod yX1_leftBy, Cond.selects RX1 yX1_leftBy yX1_leftBy, Cond.code yX1_leftBy cX1_leftBy 8 (some .int), Cond.methodLink RX1 152 yX1_mix, Cond.instanceMethod yX1_mix, Cond.selects RX1 yX1_mix yX1_mix, Cond.code yX1_mix cX1_mix 3 none, Cond.constantLong RX1 146 (31), Cond.fieldLink RX1 148 "TurnEstimatorModel" "h" "J"]
def wsX1_mixTurns : List Cond := .code yX1_mixTurns cX1_mixTurns 4 none :: ((wsX1_mixTurns_r1 ++ (wsX1_mixTurns_r2 ++ wsX1_mixTurns_r3)) ++ wsX10 ++ (vx_atM "java/lang/ArrayIndexOutOfBoundsException" ["java/lang/IndexOutOfBoundsException", "java/lang/RuntimeException", "java/lang/Exception"]).filter goodWord)
def wsX1_digest_r1 : List Cond := [Cond.fieldLink RX1 45 "TurnEstimatorModel" "thrown" "I", Cond.constantLong RX1 158 (1873), Cond.fieldLink RX1 148 "TurnEstimatorModel" "h" "J", Cond.fieldLink RX1 7 "TurnEstimatorModel" "arms" "I", Cond.fieldLink RX1 13 "TurnEstimatorModel" "inflow" "[I", Cond.fieldLink RX1 17 "TurnEstimatorModel" "outflow" "[I", Cond.fieldLink RX1 52 "TurnEstimatorModel" "roundsDone" "I", Cond.constantDouble RX1 110 (4652007308841189376), Cond.methodLink RX1 152 yX1_mix, Cond.instanceMethod yX1_mix, Cond.selects RX1 yX1_mix yX1_mix, Cond.initialized RX1, Cond.code yX1_mix cX1_mix 3 none, Cond.constantLong RX1 146 (31), Cond.methodLink RX1 160 yX1_mixTurns, Cond.instanceMethod yX1_mixTurns, Cond.selects RX1 yX1_mixTurns yX1_mixTurns, Cond.code yX1_mixTurns cX1_mixTurns 4 none, Cond.fieldLink RX1 20 "TurnEstimatorModel" "weights" "[I", Cond.fieldLink RX1 23 "TurnEstimatorModel" "estimates" "[D", Cond.fieldLink RX1 27 "TurnEstimatorModel" "whole" "[I", Cond.fieldLink RX1 33 "TurnEstimatorModel" "table" "[I", Cond.constantLong RX1 156 (-1), Cond.methodLink RX1 127 yX1_layWhole]
def wsX1_digest_r2 : List Cond := [Cond.instanceMethod yX1_layWhole, Cond.selects RX1 yX1_layWhole yX1_layWhole, Cond.code yX1_layWhole cX1_layWhole 2 none, Cond.methodLink RX1 124 yX1_roundRow, Cond.instanceMethod yX1_roundRow, Cond.selects RX1 yX1_roundRow yX1_roundRow, Cond.code yX1_roundRow cX1_roundRow 8 none, Cond.fieldLink RX1 30 "TurnEstimatorModel" "fraction" "[D", Cond.constantDouble RX1 122 (13830554455654793216), Cond.methodLink RX1 84 yX1_rowSum, Cond.instanceMethod yX1_rowSum, Cond.selects RX1 yX1_rowSum yX1_rowSum, Cond.code yX1_rowSum cX1_rowSum 5 (some .double), Cond.methodLink RX1 119 yX1_nextOf, Cond.instanceMethod yX1_nextOf, Cond.selects RX1 yX1_nextOf yX1_nextOf, Cond.code yX1_nextOf cX1_nextOf 5 (some .int), Cond.methodLink RX1 80 yX1_arePossible, Cond.instanceMethod yX1_arePossible, Cond.selects RX1 yX1_arePossible yX1_arePossible, Cond.code yX1_arePossible cX1_arePossible 1 (some .boolean), Cond.methodLink RX1 69 yX1_difference, Cond.instanceMethod yX1_difference, Cond.selects RX1 yX1_difference yX1_difference]
def wsX1_digest_r3 : List Cond := [Cond.code yX1_difference cX1_difference 3 (some .int), Cond.methodLink RX1 77 yX1_crowded, Cond.instanceMethod yX1_crowded, Cond.selects RX1 yX1_crowded yX1_crowded, Cond.code yX1_crowded cX1_crowded 2 (some .int), Cond.methodLink RX1 73 yX1_excessOf, Cond.instanceMethod yX1_excessOf, Cond.selects RX1 yX1_excessOf yX1_excessOf, Cond.code yX1_excessOf cX1_excessOf 6 (some .int), Cond.methodLink RX1 140 yX1_layTable, Cond.instanceMethod yX1_layTable, Cond.selects RX1 yX1_layTable yX1_layTable, Cond.code yX1_layTable cX1_layTable 3 none, Cond.fieldLink RX1 36 "TurnEstimatorModel" "rowLeft" "[I", Cond.fieldLink RX1 39 "TurnEstimatorModel" "columnLeft" "[I", Cond.methodLink RX1 136 yX1_layCell, Cond.instanceMethod yX1_layCell, Cond.selects RX1 yX1_layCell yX1_layCell, Cond.code yX1_layCell cX1_layCell 6 none, Cond.methodLink RX1 133 yX1_leftBy, Cond.instanceMethod yX1_leftBy, Cond.selects RX1 yX1_leftBy yX1_leftBy, Cond.code yX1_leftBy cX1_leftBy 8 (some .int), Cond.methodLink RX1 106 yX1_misfitNow]
def wsX1_digest_r4 : List Cond := [Cond.instanceMethod yX1_misfitNow, Cond.selects RX1 yX1_misfitNow yX1_misfitNow, Cond.code yX1_misfitNow cX1_misfitNow 8 (some .double), Cond.methodLink RX1 98 yX1_far, Cond.static yX1_far, Cond.code yX1_far cX1_far 4 (some .double), Cond.methodLink RX1 88 yX1_columnSum, Cond.instanceMethod yX1_columnSum, Cond.selects RX1 yX1_columnSum yX1_columnSum, Cond.code yX1_columnSum cX1_columnSum 5 (some .double), Cond.methodLink RX1 116 yX1_busiest, Cond.instanceMethod yX1_busiest, Cond.selects RX1 yX1_busiest yX1_busiest, Cond.code yX1_busiest cX1_busiest 8 (some .int), Cond.methodLink RX1 130 yX1_wholeMisfit, Cond.instanceMethod yX1_wholeMisfit, Cond.selects RX1 yX1_wholeMisfit yX1_wholeMisfit, Cond.code yX1_wholeMisfit cX1_wholeMisfit 5 (some .int)]
def wsX1_digest : List Cond := .code yX1_digest cX1_digest 2 (some .long) :: ((wsX1_digest_r1 ++ (wsX1_digest_r2 ++ (wsX1_digest_r3 ++ wsX1_digest_r4))) ++ wsX10 ++ (vx_atM "java/lang/ArrayIndexOutOfBoundsException" ["java/lang/IndexOutOfBoundsException", "java/lang/RuntimeException", "java/lang/Exception"]).filter goodWord)
def wsJx00060_init_a7421 : List Cond := .code yJx00060_init_a7421 cJx00060_init_a7421 2 none :: ([])
def wsJ9_abs_0f7a4 : List Cond := .code yJ9_abs_0f7a4 cJ9_abs_0f7a4 1 (some .int) :: ([])
def wsJ9_min_7cf53 : List Cond := .code yJ9_min_7cf53 cJ9_min_7cf53 2 (some .int) :: ([])
def wsL_setArms_r1 : List Cond := [Cond.classLink RL 13 "java/lang/IllegalArgumentException", Cond.methodLink RL 7 yX0_setArms, Cond.instanceMethod yX0_setArms, Cond.selects RX0 yX0_setArms yX0_setArms, Cond.initialized RX0, Cond.code yX0_setArms cX0_setArms 3 (some .int), Cond.fieldLink RX0 46 "TurnEstimator" "armCount" "I", Cond.methodLink RX0 42 yX0_requireWithin, Cond.static yX0_requireWithin, Cond.code yX0_requireWithin cX0_requireWithin 3 none, Cond.classLink RX0 157 "java/lang/IllegalArgumentException", Cond.initialized "java/lang/IllegalArgumentException", Cond.methodLink RX0 38 yX0_beginJunction, Cond.instanceMethod yX0_beginJunction, Cond.selects RX0 yX0_beginJunction yX0_beginJunction, Cond.code yX0_beginJunction cX0_beginJunction 4 none, Cond.fieldLink RX0 9 "TurnEstimator" "inflows" "[I", Cond.fieldLink RX0 13 "TurnEstimator" "outflows" "[I", Cond.fieldLink RX0 23 "TurnEstimator" "targets" "[I", Cond.methodLink RX0 61 yX0_putWeight, Cond.instanceMethod yX0_putWeight, Cond.selects RX0 yX0_putWeight yX0_putWeight, Cond.code yX0_putWeight cX0_putWeight 4 none, Cond.fieldLink RX0 16 "TurnEstimator" "weights" "[I"]
def wsL_setArms_r2 : List Cond := [Cond.methodLink RX0 57 yX0_turn, Cond.static yX0_turn, Cond.code yX0_turn cX0_turn 2 (some .int), Cond.methodLink RX0 64 yX0_resetEstimate, Cond.instanceMethod yX0_resetEstimate, Cond.selects RX0 yX0_resetEstimate yX0_resetEstimate, Cond.code yX0_resetEstimate cX0_resetEstimate 3 none, Cond.fieldLink RX0 19 "TurnEstimator" "estimates" "[D", Cond.fieldLink RX0 95 "TurnEstimator" "roundCount" "I"]
def wsL_setArms : List Cond := .codeWith yL_setArms cL_setArms 4 (some .int) [(0, 9, 12, 13)] :: ((wsL_setArms_r1 ++ wsL_setArms_r2) ++ wsX00 ++ (vx_atM "java/lang/ArrayIndexOutOfBoundsException" ["java/lang/IndexOutOfBoundsException", "java/lang/RuntimeException", "java/lang/Exception"]).filter goodWord ++ (vx_atS RX0 161 "java/lang/IllegalArgumentException" ["java/lang/RuntimeException", "java/lang/Exception"]).filter goodWord)
def wsL_setInflow_r1 : List Cond := [Cond.classLink RL 19 "java/lang/IndexOutOfBoundsException", Cond.classLink RL 13 "java/lang/IllegalArgumentException", Cond.methodLink RL 15 yX0_setInflow, Cond.instanceMethod yX0_setInflow, Cond.selects RX0 yX0_setInflow yX0_setInflow, Cond.initialized RX0, Cond.code yX0_setInflow cX0_setInflow 3 (some .int), Cond.fieldLink RX0 9 "TurnEstimator" "inflows" "[I", Cond.methodLink RX0 50 yX0_setCount, Cond.instanceMethod yX0_setCount, Cond.selects RX0 yX0_setCount yX0_setCount, Cond.code yX0_setCount cX0_setCount 5 (some .int), Cond.methodLink RX0 54 yX0_requireArm, Cond.instanceMethod yX0_requireArm, Cond.selects RX0 yX0_requireArm yX0_requireArm, Cond.code yX0_requireArm cX0_requireArm 2 none, Cond.classLink RX0 152 "java/lang/IndexOutOfBoundsException", Cond.initialized "java/lang/IndexOutOfBoundsException", Cond.fieldLink RX0 46 "TurnEstimator" "armCount" "I", Cond.methodLink RX0 42 yX0_requireWithin, Cond.static yX0_requireWithin, Cond.code yX0_requireWithin cX0_requireWithin 3 none, Cond.classLink RX0 157 "java/lang/IllegalArgumentException", Cond.initialized "java/lang/IllegalArgumentException"]
def wsL_setInflow_r2 : List Cond := [Cond.methodLink RX0 64 yX0_resetEstimate, Cond.instanceMethod yX0_resetEstimate, Cond.selects RX0 yX0_resetEstimate yX0_resetEstimate, Cond.code yX0_resetEstimate cX0_resetEstimate 3 none, Cond.fieldLink RX0 19 "TurnEstimator" "estimates" "[D", Cond.fieldLink RX0 16 "TurnEstimator" "weights" "[I", Cond.fieldLink RX0 95 "TurnEstimator" "roundCount" "I", Cond.methodLink RX0 57 yX0_turn, Cond.static yX0_turn, Cond.code yX0_turn cX0_turn 2 (some .int)]
def wsL_setInflow : List Cond := .codeWith yL_setInflow cL_setInflow 5 (some .int) [(0, 10, 13, 19), (0, 10, 17, 13)] :: ((wsL_setInflow_r1 ++ wsL_setInflow_r2) ++ wsX00 ++ (vx_atM "java/lang/ArrayIndexOutOfBoundsException" ["java/lang/IndexOutOfBoundsException", "java/lang/RuntimeException", "java/lang/Exception"]).filter goodWord ++ (vx_atS RX0 156 "java/lang/IndexOutOfBoundsException" ["java/lang/RuntimeException", "java/lang/Exception"]).filter goodWord ++ (vx_atS RX0 161 "java/lang/IllegalArgumentException" ["java/lang/RuntimeException", "java/lang/Exception"]).filter goodWord)
def wsL_setOutflow_r1 : List Cond := [Cond.classLink RL 19 "java/lang/IndexOutOfBoundsException", Cond.classLink RL 13 "java/lang/IllegalArgumentException", Cond.methodLink RL 21 yX0_setOutflow, Cond.instanceMethod yX0_setOutflow, Cond.selects RX0 yX0_setOutflow yX0_setOutflow, Cond.initialized RX0, Cond.code yX0_setOutflow cX0_setOutflow 3 (some .int), Cond.fieldLink RX0 13 "TurnEstimator" "outflows" "[I", Cond.methodLink RX0 50 yX0_setCount, Cond.instanceMethod yX0_setCount, Cond.selects RX0 yX0_setCount yX0_setCount, Cond.code yX0_setCount cX0_setCount 5 (some .int), Cond.methodLink RX0 54 yX0_requireArm, Cond.instanceMethod yX0_requireArm, Cond.selects RX0 yX0_requireArm yX0_requireArm, Cond.code yX0_requireArm cX0_requireArm 2 none, Cond.classLink RX0 152 "java/lang/IndexOutOfBoundsException", Cond.initialized "java/lang/IndexOutOfBoundsException", Cond.fieldLink RX0 46 "TurnEstimator" "armCount" "I", Cond.methodLink RX0 42 yX0_requireWithin, Cond.static yX0_requireWithin, Cond.code yX0_requireWithin cX0_requireWithin 3 none, Cond.classLink RX0 157 "java/lang/IllegalArgumentException", Cond.initialized "java/lang/IllegalArgumentException"]
def wsL_setOutflow_r2 : List Cond := [Cond.methodLink RX0 64 yX0_resetEstimate, Cond.instanceMethod yX0_resetEstimate, Cond.selects RX0 yX0_resetEstimate yX0_resetEstimate, Cond.code yX0_resetEstimate cX0_resetEstimate 3 none, Cond.fieldLink RX0 19 "TurnEstimator" "estimates" "[D", Cond.fieldLink RX0 16 "TurnEstimator" "weights" "[I", Cond.fieldLink RX0 95 "TurnEstimator" "roundCount" "I", Cond.methodLink RX0 57 yX0_turn, Cond.static yX0_turn, Cond.code yX0_turn cX0_turn 2 (some .int)]
def wsL_setOutflow : List Cond := .codeWith yL_setOutflow cL_setOutflow 5 (some .int) [(0, 10, 13, 19), (0, 10, 17, 13)] :: ((wsL_setOutflow_r1 ++ wsL_setOutflow_r2) ++ wsX00 ++ (vx_atM "java/lang/ArrayIndexOutOfBoundsException" ["java/lang/IndexOutOfBoundsException", "java/lang/RuntimeException", "java/lang/Exception"]).filter goodWord ++ (vx_atS RX0 156 "java/lang/IndexOutOfBoundsException" ["java/lang/RuntimeException", "java/lang/Exception"]).filter goodWord ++ (vx_atS RX0 161 "java/lang/IllegalArgumentException" ["java/lang/RuntimeException", "java/lang/Exception"]).filter goodWord)
def wsL_setWeight_r1 : List Cond := [Cond.classLink RL 19 "java/lang/IndexOutOfBoundsException", Cond.classLink RL 13 "java/lang/IllegalArgumentException", Cond.methodLink RL 24 yX0_setWeight, Cond.instanceMethod yX0_setWeight, Cond.selects RX0 yX0_setWeight yX0_setWeight, Cond.initialized RX0, Cond.code yX0_setWeight cX0_setWeight 5 (some .int), Cond.fieldLink RX0 16 "TurnEstimator" "weights" "[I", Cond.methodLink RX0 54 yX0_requireArm, Cond.instanceMethod yX0_requireArm, Cond.selects RX0 yX0_requireArm yX0_requireArm, Cond.code yX0_requireArm cX0_requireArm 2 none, Cond.classLink RX0 152 "java/lang/IndexOutOfBoundsException", Cond.initialized "java/lang/IndexOutOfBoundsException", Cond.fieldLink RX0 46 "TurnEstimator" "armCount" "I", Cond.methodLink RX0 42 yX0_requireWithin, Cond.static yX0_requireWithin, Cond.code yX0_requireWithin cX0_requireWithin 3 none, Cond.classLink RX0 157 "java/lang/IllegalArgumentException", Cond.initialized "java/lang/IllegalArgumentException", Cond.methodLink RX0 57 yX0_turn, Cond.static yX0_turn, Cond.code yX0_turn cX0_turn 2 (some .int), Cond.methodLink RX0 61 yX0_putWeight]
def wsL_setWeight_r2 : List Cond := [Cond.instanceMethod yX0_putWeight, Cond.selects RX0 yX0_putWeight yX0_putWeight, Cond.code yX0_putWeight cX0_putWeight 4 none, Cond.fieldLink RX0 23 "TurnEstimator" "targets" "[I", Cond.methodLink RX0 64 yX0_resetEstimate, Cond.instanceMethod yX0_resetEstimate, Cond.selects RX0 yX0_resetEstimate yX0_resetEstimate, Cond.code yX0_resetEstimate cX0_resetEstimate 3 none, Cond.fieldLink RX0 19 "TurnEstimator" "estimates" "[D", Cond.fieldLink RX0 95 "TurnEstimator" "roundCount" "I"]
def wsL_setWeight : List Cond := .codeWith yL_setWeight cL_setWeight 6 (some .int) [(0, 12, 15, 19), (0, 12, 19, 13)] :: ((wsL_setWeight_r1 ++ wsL_setWeight_r2) ++ wsX00 ++ (vx_atM "java/lang/ArrayIndexOutOfBoundsException" ["java/lang/IndexOutOfBoundsException", "java/lang/RuntimeException", "java/lang/Exception"]).filter goodWord ++ (vx_atS RX0 156 "java/lang/IndexOutOfBoundsException" ["java/lang/RuntimeException", "java/lang/Exception"]).filter goodWord ++ (vx_atS RX0 161 "java/lang/IllegalArgumentException" ["java/lang/RuntimeException", "java/lang/Exception"]).filter goodWord)
def wsL_scale_r1 : List Cond := [Cond.classLink RL 13 "java/lang/IllegalArgumentException", Cond.classLink RL 31 "java/lang/IllegalStateException", Cond.methodLink RL 28 yX0_scale, Cond.instanceMethod yX0_scale, Cond.selects RX0 yX0_scale yX0_scale, Cond.initialized RX0, Cond.code yX0_scale cX0_scale 3 (some .int), Cond.fieldLink RX0 46 "TurnEstimator" "armCount" "I", Cond.fieldLink RX0 9 "TurnEstimator" "inflows" "[I", Cond.fieldLink RX0 13 "TurnEstimator" "outflows" "[I", Cond.methodLink RX0 42 yX0_requireWithin, Cond.static yX0_requireWithin, Cond.code yX0_requireWithin cX0_requireWithin 3 none, Cond.classLink RX0 157 "java/lang/IllegalArgumentException", Cond.initialized "java/lang/IllegalArgumentException", Cond.methodLink RX0 67 yX0_requireScalable, Cond.static yX0_requireScalable, Cond.code yX0_requireScalable cX0_requireScalable 2 none, Cond.classLink RX0 162 "java/lang/IllegalStateException", Cond.initialized "java/lang/IllegalStateException", Cond.methodLink RX0 71 yX0_scaled, Cond.static yX0_scaled, Cond.code yX0_scaled cX0_scaled 2 (some .int), Cond.methodLink RX0 64 yX0_resetEstimate]
def wsL_scale_r2 : List Cond := [Cond.instanceMethod yX0_resetEstimate, Cond.selects RX0 yX0_resetEstimate yX0_resetEstimate, Cond.code yX0_resetEstimate cX0_resetEstimate 3 none, Cond.fieldLink RX0 19 "TurnEstimator" "estimates" "[D", Cond.fieldLink RX0 16 "TurnEstimator" "weights" "[I", Cond.fieldLink RX0 95 "TurnEstimator" "roundCount" "I", Cond.methodLink RX0 57 yX0_turn, Cond.static yX0_turn, Cond.code yX0_turn cX0_turn 2 (some .int), Cond.methodLink RX0 74 yX0_total, Cond.instanceMethod yX0_total, Cond.selects RX0 yX0_total yX0_total, Cond.code yX0_total cX0_total 4 (some .int)]
def wsL_scale : List Cond := .codeWith yL_scale cL_scale 4 (some .int) [(0, 9, 12, 13), (0, 9, 15, 31)] :: ((wsL_scale_r1 ++ wsL_scale_r2) ++ wsX00 ++ (vx_atM "java/lang/ArrayIndexOutOfBoundsException" ["java/lang/IndexOutOfBoundsException", "java/lang/RuntimeException", "java/lang/Exception"]).filter goodWord ++ (vx_atS RX0 161 "java/lang/IllegalArgumentException" ["java/lang/RuntimeException", "java/lang/Exception"]).filter goodWord ++ (vx_atS RX0 166 "java/lang/IllegalStateException" ["java/lang/RuntimeException", "java/lang/Exception"]).filter goodWord)
def wsL_excess_r1 : List Cond := [Cond.classLink RL 13 "java/lang/IllegalArgumentException", Cond.methodLink RL 33 yX0_excess, Cond.instanceMethod yX0_excess, Cond.selects RX0 yX0_excess yX0_excess, Cond.initialized RX0, Cond.code yX0_excess cX0_excess 2 (some .int), Cond.fieldLink RX0 13 "TurnEstimator" "outflows" "[I", Cond.methodLink RX0 85 yX0_allArms, Cond.instanceMethod yX0_allArms, Cond.selects RX0 yX0_allArms yX0_allArms, Cond.code yX0_allArms cX0_allArms 1 (some .int), Cond.fieldLink RX0 46 "TurnEstimator" "armCount" "I", Cond.methodLink RX0 42 yX0_requireWithin, Cond.static yX0_requireWithin, Cond.code yX0_requireWithin cX0_requireWithin 3 none, Cond.classLink RX0 157 "java/lang/IllegalArgumentException", Cond.initialized "java/lang/IllegalArgumentException", Cond.methodLink RX0 88 yX0_excessOver, Cond.instanceMethod yX0_excessOver, Cond.selects RX0 yX0_excessOver yX0_excessOver, Cond.code yX0_excessOver cX0_excessOver 6 (some .int), Cond.fieldLink RX0 9 "TurnEstimator" "inflows" "[I", Cond.methodLink RX0 171 yX0_reachedFrom, Cond.instanceMethod yX0_reachedFrom]
def wsL_excess_r2 : List Cond := [Cond.selects RX0 yX0_reachedFrom yX0_reachedFrom, Cond.code yX0_reachedFrom cX0_reachedFrom 4 (some .int), Cond.fieldLink RX0 23 "TurnEstimator" "targets" "[I", Cond.methodLink RX0 167 yX0_contains, Cond.static yX0_contains, Cond.code yX0_contains cX0_contains 2 (some .boolean)]
def wsL_excess : List Cond := .codeWith yL_excess cL_excess 4 (some .int) [(0, 9, 12, 13)] :: ((wsL_excess_r1 ++ wsL_excess_r2) ++ wsX00 ++ (vx_atM "java/lang/ArrayIndexOutOfBoundsException" ["java/lang/IndexOutOfBoundsException", "java/lang/RuntimeException", "java/lang/Exception"]).filter goodWord ++ (vx_atS RX0 161 "java/lang/IllegalArgumentException" ["java/lang/RuntimeException", "java/lang/Exception"]).filter goodWord)
def wsL_iterate_r1 : List Cond := [Cond.classLink RL 13 "java/lang/IllegalArgumentException", Cond.methodLink RL 36 yX0_iterate, Cond.instanceMethod yX0_iterate, Cond.selects RX0 yX0_iterate yX0_iterate, Cond.initialized RX0, Cond.code yX0_iterate cX0_iterate 3 (some .int), Cond.fieldLink RX0 95 "TurnEstimator" "roundCount" "I", Cond.methodLink RX0 42 yX0_requireWithin, Cond.static yX0_requireWithin, Cond.code yX0_requireWithin cX0_requireWithin 3 none, Cond.classLink RX0 157 "java/lang/IllegalArgumentException", Cond.initialized "java/lang/IllegalArgumentException", Cond.methodLink RX0 92 yX0_carryOutRound, Cond.instanceMethod yX0_carryOutRound, Cond.selects RX0 yX0_carryOutRound yX0_carryOutRound, Cond.code yX0_carryOutRound cX0_carryOutRound 2 none, Cond.fieldLink RX0 46 "TurnEstimator" "armCount" "I", Cond.methodLink RX0 197 yX0_carryOutRowStep, Cond.instanceMethod yX0_carryOutRowStep, Cond.selects RX0 yX0_carryOutRowStep yX0_carryOutRowStep, Cond.code yX0_carryOutRowStep cX0_carryOutRowStep 7 none, Cond.fieldLink RX0 9 "TurnEstimator" "inflows" "[I", Cond.fieldLink RX0 19 "TurnEstimator" "estimates" "[D", Cond.methodLink RX0 109 yX0_rowSum]
def wsL_iterate_r2 : List Cond := [Cond.instanceMethod yX0_rowSum, Cond.selects RX0 yX0_rowSum yX0_rowSum, Cond.code yX0_rowSum cX0_rowSum 5 (some .double), Cond.methodLink RX0 57 yX0_turn, Cond.static yX0_turn, Cond.code yX0_turn cX0_turn 2 (some .int), Cond.methodLink RX0 200 yX0_carryOutColumnStep, Cond.instanceMethod yX0_carryOutColumnStep, Cond.selects RX0 yX0_carryOutColumnStep yX0_carryOutColumnStep, Cond.code yX0_carryOutColumnStep cX0_carryOutColumnStep 7 none, Cond.fieldLink RX0 13 "TurnEstimator" "outflows" "[I", Cond.methodLink RX0 105 yX0_columnSum, Cond.instanceMethod yX0_columnSum, Cond.selects RX0 yX0_columnSum yX0_columnSum, Cond.code yX0_columnSum cX0_columnSum 5 (some .double)]
def wsL_iterate : List Cond := .codeWith yL_iterate cL_iterate 4 (some .int) [(0, 9, 12, 13)] :: ((wsL_iterate_r1 ++ wsL_iterate_r2) ++ wsX00 ++ (vx_atM "java/lang/ArrayIndexOutOfBoundsException" ["java/lang/IndexOutOfBoundsException", "java/lang/RuntimeException", "java/lang/Exception"]).filter goodWord ++ (vx_atS RX0 161 "java/lang/IllegalArgumentException" ["java/lang/RuntimeException", "java/lang/Exception"]).filter goodWord)
def wsL_fit_r1 : List Cond := [Cond.classLink RL 13 "java/lang/IllegalArgumentException", Cond.methodLink RL 39 yX0_fit, Cond.instanceMethod yX0_fit, Cond.selects RX0 yX0_fit yX0_fit, Cond.initialized RX0, Cond.code yX0_fit cX0_fit 6 (some .int), Cond.constant RX0 98 (100000), Cond.constantDouble RX0 99 (4652007308841189376), Cond.methodLink RX0 42 yX0_requireWithin, Cond.static yX0_requireWithin, Cond.code yX0_requireWithin cX0_requireWithin 3 none, Cond.classLink RX0 157 "java/lang/IllegalArgumentException", Cond.initialized "java/lang/IllegalArgumentException", Cond.methodLink RX0 101 yX0_misfit, Cond.instanceMethod yX0_misfit, Cond.selects RX0 yX0_misfit yX0_misfit, Cond.code yX0_misfit cX0_misfit 8 (some .double), Cond.fieldLink RX0 46 "TurnEstimator" "armCount" "I", Cond.fieldLink RX0 9 "TurnEstimator" "inflows" "[I", Cond.fieldLink RX0 13 "TurnEstimator" "outflows" "[I", Cond.methodLink RX0 109 yX0_rowSum, Cond.instanceMethod yX0_rowSum, Cond.selects RX0 yX0_rowSum yX0_rowSum, Cond.code yX0_rowSum cX0_rowSum 5 (some .double)]
def wsL_fit_r2 : List Cond := [Cond.fieldLink RX0 19 "TurnEstimator" "estimates" "[D", Cond.methodLink RX0 57 yX0_turn, Cond.static yX0_turn, Cond.code yX0_turn cX0_turn 2 (some .int), Cond.methodLink RX0 112 yX0_distance, Cond.static yX0_distance, Cond.code yX0_distance cX0_distance 6 (some .double), Cond.methodLink RX0 105 yX0_columnSum, Cond.instanceMethod yX0_columnSum, Cond.selects RX0 yX0_columnSum yX0_columnSum, Cond.code yX0_columnSum cX0_columnSum 5 (some .double), Cond.methodLink RX0 92 yX0_carryOutRound, Cond.instanceMethod yX0_carryOutRound, Cond.selects RX0 yX0_carryOutRound yX0_carryOutRound, Cond.code yX0_carryOutRound cX0_carryOutRound 2 none, Cond.fieldLink RX0 95 "TurnEstimator" "roundCount" "I", Cond.methodLink RX0 197 yX0_carryOutRowStep, Cond.instanceMethod yX0_carryOutRowStep, Cond.selects RX0 yX0_carryOutRowStep yX0_carryOutRowStep, Cond.code yX0_carryOutRowStep cX0_carryOutRowStep 7 none, Cond.methodLink RX0 200 yX0_carryOutColumnStep, Cond.instanceMethod yX0_carryOutColumnStep, Cond.selects RX0 yX0_carryOutColumnStep yX0_carryOutColumnStep, Cond.code yX0_carryOutColumnStep cX0_carryOutColumnStep 7 none]
def wsL_fit : List Cond := .codeWith yL_fit cL_fit 5 (some .int) [(0, 10, 13, 13)] :: ((wsL_fit_r1 ++ wsL_fit_r2) ++ wsX00 ++ (vx_atM "java/lang/ArrayIndexOutOfBoundsException" ["java/lang/IndexOutOfBoundsException", "java/lang/RuntimeException", "java/lang/Exception"]).filter goodWord ++ (vx_atS RX0 161 "java/lang/IllegalArgumentException" ["java/lang/RuntimeException", "java/lang/Exception"]).filter goodWord)
def wsL_estimate : List Cond := .codeWith yL_estimate cL_estimate 5 (some .int) [(0, 9, 12, 19)] :: ([.classLink RL 19 "java/lang/IndexOutOfBoundsException", .methodLink RL 42 yX0_estimate, .instanceMethod yX0_estimate, .selects RX0 yX0_estimate yX0_estimate, .initialized RX0, .code yX0_estimate cX0_estimate 3 (some .double), .fieldLink RX0 19 "TurnEstimator" "estimates" "[D", .methodLink RX0 54 yX0_requireArm, .instanceMethod yX0_requireArm, .selects RX0 yX0_requireArm yX0_requireArm, .code yX0_requireArm cX0_requireArm 2 none, .classLink RX0 152 "java/lang/IndexOutOfBoundsException", .initialized "java/lang/IndexOutOfBoundsException", .fieldLink RX0 46 "TurnEstimator" "armCount" "I", .methodLink RX0 57 yX0_turn, .static yX0_turn, .code yX0_turn cX0_turn 2 (some .int)] ++ wsX00 ++ (vx_atM "java/lang/ArrayIndexOutOfBoundsException" ["java/lang/IndexOutOfBoundsException", "java/lang/RuntimeException", "java/lang/Exception"]).filter goodWord ++ (vx_atS RX0 156 "java/lang/IndexOutOfBoundsException" ["java/lang/RuntimeException", "java/lang/Exception"]).filter goodWord)
def wsL_sum_r1 : List Cond := [Cond.classLink RL 19 "java/lang/IndexOutOfBoundsException", Cond.methodLink RL 46 yX0_sum, Cond.instanceMethod yX0_sum, Cond.selects RX0 yX0_sum yX0_sum, Cond.initialized RX0, Cond.code yX0_sum cX0_sum 3 (some .double), Cond.methodLink RX0 54 yX0_requireArm, Cond.instanceMethod yX0_requireArm, Cond.selects RX0 yX0_requireArm yX0_requireArm, Cond.code yX0_requireArm cX0_requireArm 2 none, Cond.classLink RX0 152 "java/lang/IndexOutOfBoundsException", Cond.initialized "java/lang/IndexOutOfBoundsException", Cond.fieldLink RX0 46 "TurnEstimator" "armCount" "I", Cond.methodLink RX0 105 yX0_columnSum, Cond.instanceMethod yX0_columnSum, Cond.selects RX0 yX0_columnSum yX0_columnSum, Cond.code yX0_columnSum cX0_columnSum 5 (some .double), Cond.fieldLink RX0 19 "TurnEstimator" "estimates" "[D", Cond.methodLink RX0 57 yX0_turn, Cond.static yX0_turn, Cond.code yX0_turn cX0_turn 2 (some .int), Cond.methodLink RX0 109 yX0_rowSum, Cond.instanceMethod yX0_rowSum, Cond.selects RX0 yX0_rowSum yX0_rowSum]
def wsL_sum_r2 : List Cond := [Cond.code yX0_rowSum cX0_rowSum 5 (some .double)]
def wsL_sum : List Cond := .codeWith yL_sum cL_sum 5 (some .int) [(0, 9, 12, 19)] :: ((wsL_sum_r1 ++ wsL_sum_r2) ++ wsX00 ++ (vx_atM "java/lang/ArrayIndexOutOfBoundsException" ["java/lang/IndexOutOfBoundsException", "java/lang/RuntimeException", "java/lang/Exception"]).filter goodWord ++ (vx_atS RX0 156 "java/lang/IndexOutOfBoundsException" ["java/lang/RuntimeException", "java/lang/Exception"]).filter goodWord)
def wsL_share : List Cond := .codeWith yL_share cL_share 5 (some .int) [(0, 9, 12, 19)] :: ([.classLink RL 19 "java/lang/IndexOutOfBoundsException", .methodLink RL 50 yX0_share, .instanceMethod yX0_share, .selects RX0 yX0_share yX0_share, .initialized RX0, .code yX0_share cX0_share 5 (some .double), .fieldLink RX0 19 "TurnEstimator" "estimates" "[D", .methodLink RX0 54 yX0_requireArm, .instanceMethod yX0_requireArm, .selects RX0 yX0_requireArm yX0_requireArm, .code yX0_requireArm cX0_requireArm 2 none, .classLink RX0 152 "java/lang/IndexOutOfBoundsException", .initialized "java/lang/IndexOutOfBoundsException", .fieldLink RX0 46 "TurnEstimator" "armCount" "I", .methodLink RX0 109 yX0_rowSum, .instanceMethod yX0_rowSum, .selects RX0 yX0_rowSum yX0_rowSum, .code yX0_rowSum cX0_rowSum 5 (some .double), .methodLink RX0 57 yX0_turn, .static yX0_turn, .code yX0_turn cX0_turn 2 (some .int)] ++ wsX00 ++ (vx_atM "java/lang/ArrayIndexOutOfBoundsException" ["java/lang/IndexOutOfBoundsException", "java/lang/RuntimeException", "java/lang/Exception"]).filter goodWord ++ (vx_atS RX0 156 "java/lang/IndexOutOfBoundsException" ["java/lang/RuntimeException", "java/lang/Exception"]).filter goodWord)
def wsL_crossRatio : List Cond := .codeWith yL_crossRatio cL_crossRatio 7 (some .int) [(0, 13, 16, 19), (0, 13, 20, 57)] :: ([.classLink RL 19 "java/lang/IndexOutOfBoundsException", .classLink RL 57 "java/lang/ArithmeticException", .methodLink RL 53 yX0_crossRatio, .instanceMethod yX0_crossRatio, .selects RX0 yX0_crossRatio yX0_crossRatio, .initialized RX0, .code yX0_crossRatio cX0_crossRatio 9 (some .double), .classLink RX0 116 "java/lang/ArithmeticException", .initialized "java/lang/ArithmeticException", .fieldLink RX0 19 "TurnEstimator" "estimates" "[D", .methodLink RX0 54 yX0_requireArm, .instanceMethod yX0_requireArm, .selects RX0 yX0_requireArm yX0_requireArm, .code yX0_requireArm cX0_requireArm 2 none, .classLink RX0 152 "java/lang/IndexOutOfBoundsException", .initialized "java/lang/IndexOutOfBoundsException", .fieldLink RX0 46 "TurnEstimator" "armCount" "I", .methodLink RX0 57 yX0_turn, .static yX0_turn, .code yX0_turn cX0_turn 2 (some .int)] ++ wsX00 ++ (vx_atM "java/lang/ArrayIndexOutOfBoundsException" ["java/lang/IndexOutOfBoundsException", "java/lang/RuntimeException", "java/lang/Exception"]).filter goodWord ++ (vx_atS RX0 120 "java/lang/ArithmeticException" ["java/lang/RuntimeException", "java/lang/Exception"]).filter goodWord ++ (vx_atS RX0 156 "java/lang/IndexOutOfBoundsException" ["java/lang/RuntimeException", "java/lang/Exception"]).filter goodWord)
def wsL_rounded_r1 : List Cond := [Cond.classLink RL 19 "java/lang/IndexOutOfBoundsException", Cond.methodLink RL 59 yX0_rounded, Cond.instanceMethod yX0_rounded, Cond.selects RX0 yX0_rounded yX0_rounded, Cond.initialized RX0, Cond.code yX0_rounded cX0_rounded 3 (some .int), Cond.fieldLink RX0 26 "TurnEstimator" "roundedTable" "[I", Cond.methodLink RX0 54 yX0_requireArm, Cond.instanceMethod yX0_requireArm, Cond.selects RX0 yX0_requireArm yX0_requireArm, Cond.code yX0_requireArm cX0_requireArm 2 none, Cond.classLink RX0 152 "java/lang/IndexOutOfBoundsException", Cond.initialized "java/lang/IndexOutOfBoundsException", Cond.fieldLink RX0 46 "TurnEstimator" "armCount" "I", Cond.methodLink RX0 123 yX0_roundRow, Cond.instanceMethod yX0_roundRow, Cond.selects RX0 yX0_roundRow yX0_roundRow, Cond.code yX0_roundRow cX0_roundRow 9 none, Cond.fieldLink RX0 19 "TurnEstimator" "estimates" "[D", Cond.fieldLink RX0 9 "TurnEstimator" "inflows" "[I", Cond.fieldLink RX0 35 "TurnEstimator" "fractions" "[D", Cond.methodLink RX0 109 yX0_rowSum, Cond.instanceMethod yX0_rowSum, Cond.selects RX0 yX0_rowSum yX0_rowSum]
def wsL_rounded_r2 : List Cond := [Cond.code yX0_rowSum cX0_rowSum 5 (some .double), Cond.methodLink RX0 57 yX0_turn, Cond.static yX0_turn, Cond.code yX0_turn cX0_turn 2 (some .int), Cond.methodLink RX0 203 yX0_raiseGreatestFractions, Cond.instanceMethod yX0_raiseGreatestFractions, Cond.selects RX0 yX0_raiseGreatestFractions yX0_raiseGreatestFractions, Cond.code yX0_raiseGreatestFractions cX0_raiseGreatestFractions 6 none, Cond.methodLink RX0 192 Lib.Math.min.name, Cond.static Lib.Math.min.name, Cond.initialized "java/lang/Math", Cond.code Lib.Math.min.name Lib.Math.min.code 2 (some .int), Cond.constantDouble RX0 209 (13830554455654793216), Cond.methodLink RX0 206 yX0_greatestFraction, Cond.instanceMethod yX0_greatestFraction, Cond.selects RX0 yX0_greatestFraction yX0_greatestFraction, Cond.code yX0_greatestFraction cX0_greatestFraction 6 (some .int), Cond.methodLink RX0 189 yX0_isOpen, Cond.instanceMethod yX0_isOpen, Cond.selects RX0 yX0_isOpen yX0_isOpen, Cond.code yX0_isOpen cX0_isOpen 3 (some .boolean), Cond.fieldLink RX0 23 "TurnEstimator" "targets" "[I", Cond.methodLink RX0 167 yX0_contains, Cond.static yX0_contains]
def wsL_rounded_r3 : List Cond := [Cond.code yX0_contains cX0_contains 2 (some .boolean)]
def wsL_rounded : List Cond := .codeWith yL_rounded cL_rounded 5 (some .int) [(0, 10, 13, 19)] :: ((wsL_rounded_r1 ++ (wsL_rounded_r2 ++ wsL_rounded_r3)) ++ wsX00 ++ (vx_atM "java/lang/ArrayIndexOutOfBoundsException" ["java/lang/IndexOutOfBoundsException", "java/lang/RuntimeException", "java/lang/Exception"]).filter goodWord ++ (vx_atS RX0 156 "java/lang/IndexOutOfBoundsException" ["java/lang/RuntimeException", "java/lang/Exception"]).filter goodWord)
def wsL_possible_r1 : List Cond := [Cond.classLink RL 19 "java/lang/IndexOutOfBoundsException", Cond.methodLink RL 62 yX0_possible, Cond.instanceMethod yX0_possible, Cond.selects RX0 yX0_possible yX0_possible, Cond.initialized RX0, Cond.code yX0_possible cX0_possible 3 (some .int), Cond.fieldLink RX0 29 "TurnEstimator" "possibleTable" "[I", Cond.methodLink RX0 54 yX0_requireArm, Cond.instanceMethod yX0_requireArm, Cond.selects RX0 yX0_requireArm yX0_requireArm, Cond.code yX0_requireArm cX0_requireArm 2 none, Cond.classLink RX0 152 "java/lang/IndexOutOfBoundsException", Cond.initialized "java/lang/IndexOutOfBoundsException", Cond.fieldLink RX0 46 "TurnEstimator" "armCount" "I", Cond.methodLink RX0 132 yX0_fillPossibleTable, Cond.instanceMethod yX0_fillPossibleTable, Cond.selects RX0 yX0_fillPossibleTable yX0_fillPossibleTable, Cond.code yX0_fillPossibleTable cX0_fillPossibleTable 6 none, Cond.fieldLink RX0 13 "TurnEstimator" "outflows" "[I", Cond.fieldLink RX0 32 "TurnEstimator" "outflowsLeft" "[I", Cond.methodLink RX0 179 arraycopyName, Cond.native arraycopyName, Cond.static arraycopyName, Cond.initialized "java/lang/System"]
def wsL_possible_r2 : List Cond := [Cond.fieldLink RX0 9 "TurnEstimator" "inflows" "[I", Cond.methodLink RX0 175 yX0_isPossible, Cond.instanceMethod yX0_isPossible, Cond.selects RX0 yX0_isPossible yX0_isPossible, Cond.code yX0_isPossible cX0_isPossible 1 (some .boolean), Cond.methodLink RX0 78 yX0_imbalance, Cond.instanceMethod yX0_imbalance, Cond.selects RX0 yX0_imbalance yX0_imbalance, Cond.code yX0_imbalance cX0_imbalance 1 (some .int), Cond.methodLink RX0 74 yX0_total, Cond.instanceMethod yX0_total, Cond.selects RX0 yX0_total yX0_total, Cond.code yX0_total cX0_total 4 (some .int), Cond.methodLink RX0 82 yX0_crowdedSet, Cond.instanceMethod yX0_crowdedSet, Cond.selects RX0 yX0_crowdedSet yX0_crowdedSet, Cond.code yX0_crowdedSet cX0_crowdedSet 2 (some .int), Cond.methodLink RX0 85 yX0_allArms, Cond.instanceMethod yX0_allArms, Cond.selects RX0 yX0_allArms yX0_allArms, Cond.code yX0_allArms cX0_allArms 1 (some .int), Cond.methodLink RX0 88 yX0_excessOver, Cond.instanceMethod yX0_excessOver, Cond.selects RX0 yX0_excessOver yX0_excessOver]
def wsL_possible_r3 : List Cond := [Cond.code yX0_excessOver cX0_excessOver 6 (some .int), Cond.methodLink RX0 171 yX0_reachedFrom, Cond.instanceMethod yX0_reachedFrom, Cond.selects RX0 yX0_reachedFrom yX0_reachedFrom, Cond.code yX0_reachedFrom cX0_reachedFrom 4 (some .int), Cond.fieldLink RX0 23 "TurnEstimator" "targets" "[I", Cond.methodLink RX0 167 yX0_contains, Cond.static yX0_contains, Cond.code yX0_contains cX0_contains 2 (some .boolean), Cond.methodLink RX0 185 yX0_greatestPossible, Cond.instanceMethod yX0_greatestPossible, Cond.selects RX0 yX0_greatestPossible yX0_greatestPossible, Cond.code yX0_greatestPossible cX0_greatestPossible 7 (some .int), Cond.methodLink RX0 192 Lib.Math.min.name, Cond.static Lib.Math.min.name, Cond.initialized "java/lang/Math", Cond.code Lib.Math.min.name Lib.Math.min.code 2 (some .int), Cond.methodLink RX0 189 yX0_isOpen, Cond.instanceMethod yX0_isOpen, Cond.selects RX0 yX0_isOpen yX0_isOpen, Cond.code yX0_isOpen cX0_isOpen 3 (some .boolean), Cond.methodLink RX0 57 yX0_turn, Cond.static yX0_turn, Cond.code yX0_turn cX0_turn 2 (some .int)]
def wsL_possible : List Cond := .codeWith yL_possible cL_possible 5 (some .int) [(0, 10, 13, 19)] :: ((wsL_possible_r1 ++ (wsL_possible_r2 ++ wsL_possible_r3)) ++ wsX00 ++ (vx_atM "java/lang/ArrayIndexOutOfBoundsException" ["java/lang/IndexOutOfBoundsException", "java/lang/RuntimeException", "java/lang/Exception"]).filter goodWord ++ (vx_atS RX0 156 "java/lang/IndexOutOfBoundsException" ["java/lang/RuntimeException", "java/lang/Exception"]).filter goodWord)
def wsL_law0_r1 : List Cond := [Cond.classLink RL 8 RX0, Cond.instantiable RX0 11, Cond.initialized RX0, Cond.classLink RL 66 RX1, Cond.instantiable RX1 13, Cond.initialized RX1, Cond.arrayClass .long, Cond.arrayClass .double, Cond.methodLink RL 65 yX0_init, Cond.instanceMethod yX0_init, Cond.code yX0_init cX0_init 1 none, Cond.methodLink RX0 1 objectInit, Cond.instanceMethod objectInit, Cond.code objectInit ⟨#[0xb1]⟩ 1 none, Cond.arrayClass .int, Cond.fieldLink RX0 9 "TurnEstimator" "inflows" "[I", Cond.fieldLink RX0 13 "TurnEstimator" "outflows" "[I", Cond.fieldLink RX0 16 "TurnEstimator" "weights" "[I", Cond.fieldLink RX0 19 "TurnEstimator" "estimates" "[D", Cond.fieldLink RX0 23 "TurnEstimator" "targets" "[I", Cond.fieldLink RX0 26 "TurnEstimator" "roundedTable" "[I", Cond.fieldLink RX0 29 "TurnEstimator" "possibleTable" "[I", Cond.fieldLink RX0 32 "TurnEstimator" "outflowsLeft" "[I", Cond.fieldLink RX0 35 "TurnEstimator" "fractions" "[D"]
def wsL_law0_r2 : List Cond := [Cond.methodLink RX0 38 yX0_beginJunction, Cond.instanceMethod yX0_beginJunction, Cond.selects RX0 yX0_beginJunction yX0_beginJunction, Cond.code yX0_beginJunction cX0_beginJunction 4 none, Cond.fieldLink RX0 46 "TurnEstimator" "armCount" "I", Cond.methodLink RX0 61 yX0_putWeight, Cond.instanceMethod yX0_putWeight, Cond.selects RX0 yX0_putWeight yX0_putWeight, Cond.code yX0_putWeight cX0_putWeight 4 none, Cond.methodLink RX0 57 yX0_turn, Cond.static yX0_turn, Cond.code yX0_turn cX0_turn 2 (some .int), Cond.methodLink RX0 64 yX0_resetEstimate, Cond.instanceMethod yX0_resetEstimate, Cond.selects RX0 yX0_resetEstimate yX0_resetEstimate, Cond.code yX0_resetEstimate cX0_resetEstimate 3 none, Cond.fieldLink RX0 95 "TurnEstimator" "roundCount" "I", Cond.methodLink RL 68 yX1_init, Cond.instanceMethod yX1_init, Cond.code yX1_init cX1_init 1 none, Cond.methodLink RX1 1 objectInit, Cond.fieldLink RX1 7 "TurnEstimatorModel" "arms" "I", Cond.fieldLink RX1 13 "TurnEstimatorModel" "inflow" "[I", Cond.fieldLink RX1 17 "TurnEstimatorModel" "outflow" "[I"]
def wsL_law0_r3 : List Cond := [Cond.fieldLink RX1 20 "TurnEstimatorModel" "weights" "[I", Cond.fieldLink RX1 23 "TurnEstimatorModel" "estimates" "[D", Cond.fieldLink RX1 27 "TurnEstimatorModel" "whole" "[I", Cond.fieldLink RX1 30 "TurnEstimatorModel" "fraction" "[D", Cond.fieldLink RX1 33 "TurnEstimatorModel" "table" "[I", Cond.fieldLink RX1 36 "TurnEstimatorModel" "rowLeft" "[I", Cond.fieldLink RX1 39 "TurnEstimatorModel" "columnLeft" "[I", Cond.methodLink RX1 42 yX1_begin, Cond.instanceMethod yX1_begin, Cond.selects RX1 yX1_begin yX1_begin, Cond.code yX1_begin cX1_begin 2 none, Cond.methodLink RX1 55 yX1_layWeights, Cond.instanceMethod yX1_layWeights, Cond.selects RX1 yX1_layWeights yX1_layWeights, Cond.code yX1_layWeights cX1_layWeights 2 none, Cond.fieldLink RX1 52 "TurnEstimatorModel" "roundsDone" "I", Cond.methodLink RL 69 yL_setArms, Cond.static yL_setArms, Cond.initialized RL, Cond.codeWith yL_setArms cL_setArms 4 (some .int) [(0, 9, 12, 13)], Cond.classLink RL 13 "java/lang/IllegalArgumentException", Cond.methodLink RL 7 yX0_setArms, Cond.instanceMethod yX0_setArms, Cond.selects RX0 yX0_setArms yX0_setArms]
def wsL_law0_r4 : List Cond := [Cond.code yX0_setArms cX0_setArms 3 (some .int), Cond.methodLink RX0 42 yX0_requireWithin, Cond.static yX0_requireWithin, Cond.code yX0_requireWithin cX0_requireWithin 3 none, Cond.classLink RX0 157 "java/lang/IllegalArgumentException", Cond.initialized "java/lang/IllegalArgumentException", Cond.methodLink RL 74 yX1_setArms, Cond.instanceMethod yX1_setArms, Cond.selects RX1 yX1_setArms yX1_setArms, Cond.code yX1_setArms cX1_setArms 3 (some .int), Cond.fieldLink RX1 45 "TurnEstimatorModel" "thrown" "I", Cond.methodLink RX1 48 yX1_within, Cond.static yX1_within, Cond.code yX1_within cX1_within 3 (some .boolean), Cond.methodLink RL 75 yX1_thrown, Cond.instanceMethod yX1_thrown, Cond.selects RX1 yX1_thrown yX1_thrown, Cond.code yX1_thrown cX1_thrown 1 (some .int), Cond.methodLink RL 79 yX0_arms, Cond.instanceMethod yX0_arms, Cond.selects RX0 yX0_arms yX0_arms, Cond.code yX0_arms cX0_arms 1 (some .int), Cond.methodLink RL 82 yX1_arms, Cond.instanceMethod yX1_arms]
def wsL_law0_r5 : List Cond := [Cond.selects RX1 yX1_arms yX1_arms, Cond.code yX1_arms cX1_arms 1 (some .int), Cond.methodLink RL 83 yL_setInflow, Cond.static yL_setInflow, Cond.codeWith yL_setInflow cL_setInflow 5 (some .int) [(0, 10, 13, 19), (0, 10, 17, 13)], Cond.classLink RL 19 "java/lang/IndexOutOfBoundsException", Cond.methodLink RL 15 yX0_setInflow, Cond.instanceMethod yX0_setInflow, Cond.selects RX0 yX0_setInflow yX0_setInflow, Cond.code yX0_setInflow cX0_setInflow 3 (some .int), Cond.methodLink RX0 50 yX0_setCount, Cond.instanceMethod yX0_setCount, Cond.selects RX0 yX0_setCount yX0_setCount, Cond.code yX0_setCount cX0_setCount 5 (some .int), Cond.methodLink RX0 54 yX0_requireArm, Cond.instanceMethod yX0_requireArm, Cond.selects RX0 yX0_requireArm yX0_requireArm, Cond.code yX0_requireArm cX0_requireArm 2 none, Cond.classLink RX0 152 "java/lang/IndexOutOfBoundsException", Cond.initialized "java/lang/IndexOutOfBoundsException", Cond.methodLink RL 86 yX1_setInflow, Cond.instanceMethod yX1_setInflow, Cond.selects RX1 yX1_setInflow yX1_setInflow, Cond.code yX1_setInflow cX1_setInflow 4 (some .int)]
def wsL_law0_r6 : List Cond := [Cond.methodLink RX1 58 yX1_isArm, Cond.instanceMethod yX1_isArm, Cond.selects RX1 yX1_isArm yX1_isArm, Cond.code yX1_isArm cX1_isArm 2 (some .boolean), Cond.methodLink RL 87 yL_setOutflow, Cond.static yL_setOutflow, Cond.codeWith yL_setOutflow cL_setOutflow 5 (some .int) [(0, 10, 13, 19), (0, 10, 17, 13)], Cond.methodLink RL 21 yX0_setOutflow, Cond.instanceMethod yX0_setOutflow, Cond.selects RX0 yX0_setOutflow yX0_setOutflow, Cond.code yX0_setOutflow cX0_setOutflow 3 (some .int), Cond.methodLink RL 89 yX1_setOutflow, Cond.instanceMethod yX1_setOutflow, Cond.selects RX1 yX1_setOutflow yX1_setOutflow, Cond.code yX1_setOutflow cX1_setOutflow 4 (some .int), Cond.methodLink RL 90 yL_setWeight, Cond.static yL_setWeight, Cond.codeWith yL_setWeight cL_setWeight 6 (some .int) [(0, 12, 15, 19), (0, 12, 19, 13)], Cond.methodLink RL 24 yX0_setWeight, Cond.instanceMethod yX0_setWeight, Cond.selects RX0 yX0_setWeight yX0_setWeight, Cond.code yX0_setWeight cX0_setWeight 5 (some .int), Cond.methodLink RL 93 yX1_setWeight, Cond.instanceMethod yX1_setWeight]
def wsL_law0_r7 : List Cond := [Cond.selects RX1 yX1_setWeight yX1_setWeight, Cond.code yX1_setWeight cX1_setWeight 5 (some .int), Cond.methodLink RL 94 yL_scale, Cond.static yL_scale, Cond.codeWith yL_scale cL_scale 4 (some .int) [(0, 9, 12, 13), (0, 9, 15, 31)], Cond.classLink RL 31 "java/lang/IllegalStateException", Cond.methodLink RL 28 yX0_scale, Cond.instanceMethod yX0_scale, Cond.selects RX0 yX0_scale yX0_scale, Cond.code yX0_scale cX0_scale 3 (some .int), Cond.methodLink RX0 67 yX0_requireScalable, Cond.static yX0_requireScalable, Cond.code yX0_requireScalable cX0_requireScalable 2 none, Cond.classLink RX0 162 "java/lang/IllegalStateException", Cond.initialized "java/lang/IllegalStateException", Cond.methodLink RX0 71 yX0_scaled, Cond.static yX0_scaled, Cond.code yX0_scaled cX0_scaled 2 (some .int), Cond.methodLink RX0 74 yX0_total, Cond.instanceMethod yX0_total, Cond.selects RX0 yX0_total yX0_total, Cond.code yX0_total cX0_total 4 (some .int), Cond.methodLink RL 96 yX1_scale, Cond.instanceMethod yX1_scale]
def wsL_law0_r8 : List Cond := [Cond.selects RX1 yX1_scale yX1_scale, Cond.code yX1_scale cX1_scale 4 (some .int), Cond.methodLink RX1 66 yX1_isScalable, Cond.instanceMethod yX1_isScalable, Cond.selects RX1 yX1_isScalable yX1_isScalable, Cond.code yX1_isScalable cX1_isScalable 4 (some .boolean), Cond.methodLink RX1 62 yX1_scaled, Cond.static yX1_scaled, Cond.code yX1_scaled cX1_scaled 2 (some .int), Cond.methodLink RL 97 yX0_imbalance, Cond.instanceMethod yX0_imbalance, Cond.selects RX0 yX0_imbalance yX0_imbalance, Cond.code yX0_imbalance cX0_imbalance 1 (some .int), Cond.methodLink RL 100 yX1_imbalance, Cond.instanceMethod yX1_imbalance, Cond.selects RX1 yX1_imbalance yX1_imbalance, Cond.code yX1_imbalance cX1_imbalance 1 (some .int), Cond.methodLink RX1 69 yX1_difference, Cond.instanceMethod yX1_difference, Cond.selects RX1 yX1_difference yX1_difference, Cond.code yX1_difference cX1_difference 3 (some .int), Cond.methodLink RL 101 yX0_isPossible, Cond.instanceMethod yX0_isPossible, Cond.selects RX0 yX0_isPossible yX0_isPossible]
def wsL_law0_r9 : List Cond := [Cond.code yX0_isPossible cX0_isPossible 1 (some .boolean), Cond.methodLink RX0 78 yX0_imbalance, Cond.methodLink RX0 82 yX0_crowdedSet, Cond.instanceMethod yX0_crowdedSet, Cond.selects RX0 yX0_crowdedSet yX0_crowdedSet, Cond.code yX0_crowdedSet cX0_crowdedSet 2 (some .int), Cond.methodLink RX0 85 yX0_allArms, Cond.instanceMethod yX0_allArms, Cond.selects RX0 yX0_allArms yX0_allArms, Cond.code yX0_allArms cX0_allArms 1 (some .int), Cond.methodLink RX0 88 yX0_excessOver, Cond.instanceMethod yX0_excessOver, Cond.selects RX0 yX0_excessOver yX0_excessOver, Cond.code yX0_excessOver cX0_excessOver 6 (some .int), Cond.methodLink RX0 171 yX0_reachedFrom, Cond.instanceMethod yX0_reachedFrom, Cond.selects RX0 yX0_reachedFrom yX0_reachedFrom, Cond.code yX0_reachedFrom cX0_reachedFrom 4 (some .int), Cond.methodLink RX0 167 yX0_contains, Cond.static yX0_contains, Cond.code yX0_contains cX0_contains 2 (some .boolean), Cond.methodLink RL 105 yX1_isPossible, Cond.instanceMethod yX1_isPossible, Cond.selects RX1 yX1_isPossible yX1_isPossible]
def wsL_law0_r10 : List Cond := [Cond.code yX1_isPossible cX1_isPossible 1 (some .boolean), Cond.methodLink RX1 80 yX1_arePossible, Cond.instanceMethod yX1_arePossible, Cond.selects RX1 yX1_arePossible yX1_arePossible, Cond.code yX1_arePossible cX1_arePossible 1 (some .boolean), Cond.methodLink RX1 77 yX1_crowded, Cond.instanceMethod yX1_crowded, Cond.selects RX1 yX1_crowded yX1_crowded, Cond.code yX1_crowded cX1_crowded 2 (some .int), Cond.methodLink RX1 73 yX1_excessOf, Cond.instanceMethod yX1_excessOf, Cond.selects RX1 yX1_excessOf yX1_excessOf, Cond.code yX1_excessOf cX1_excessOf 6 (some .int), Cond.methodLink RL 106 yX0_crowdedSet, Cond.methodLink RL 109 yX1_crowdedSet, Cond.instanceMethod yX1_crowdedSet, Cond.selects RX1 yX1_crowdedSet yX1_crowdedSet, Cond.code yX1_crowdedSet cX1_crowdedSet 1 (some .int), Cond.methodLink RL 110 yL_excess, Cond.static yL_excess, Cond.codeWith yL_excess cL_excess 4 (some .int) [(0, 9, 12, 13)], Cond.methodLink RL 33 yX0_excess, Cond.instanceMethod yX0_excess, Cond.selects RX0 yX0_excess yX0_excess]
def wsL_law0_r11 : List Cond := [Cond.code yX0_excess cX0_excess 2 (some .int), Cond.methodLink RL 112 yX1_excess, Cond.instanceMethod yX1_excess, Cond.selects RX1 yX1_excess yX1_excess, Cond.code yX1_excess cX1_excess 2 (some .int), Cond.methodLink RL 113 yL_iterate, Cond.static yL_iterate, Cond.codeWith yL_iterate cL_iterate 4 (some .int) [(0, 9, 12, 13)], Cond.methodLink RL 36 yX0_iterate, Cond.instanceMethod yX0_iterate, Cond.selects RX0 yX0_iterate yX0_iterate, Cond.code yX0_iterate cX0_iterate 3 (some .int), Cond.methodLink RX0 92 yX0_carryOutRound, Cond.instanceMethod yX0_carryOutRound, Cond.selects RX0 yX0_carryOutRound yX0_carryOutRound, Cond.code yX0_carryOutRound cX0_carryOutRound 2 none, Cond.methodLink RX0 197 yX0_carryOutRowStep, Cond.instanceMethod yX0_carryOutRowStep, Cond.selects RX0 yX0_carryOutRowStep yX0_carryOutRowStep, Cond.code yX0_carryOutRowStep cX0_carryOutRowStep 7 none, Cond.methodLink RX0 109 yX0_rowSum, Cond.instanceMethod yX0_rowSum, Cond.selects RX0 yX0_rowSum yX0_rowSum, Cond.code yX0_rowSum cX0_rowSum 5 (some .double)]
def wsL_law0_r12 : List Cond := [Cond.methodLink RX0 200 yX0_carryOutColumnStep, Cond.instanceMethod yX0_carryOutColumnStep, Cond.selects RX0 yX0_carryOutColumnStep yX0_carryOutColumnStep, Cond.code yX0_carryOutColumnStep cX0_carryOutColumnStep 7 none, Cond.methodLink RX0 105 yX0_columnSum, Cond.instanceMethod yX0_columnSum, Cond.selects RX0 yX0_columnSum yX0_columnSum, Cond.code yX0_columnSum cX0_columnSum 5 (some .double), Cond.methodLink RL 115 yX1_iterate, Cond.instanceMethod yX1_iterate, Cond.selects RX1 yX1_iterate yX1_iterate, Cond.code yX1_iterate cX1_iterate 3 (some .int), Cond.methodLink RX1 102 yX1_oneRound, Cond.instanceMethod yX1_oneRound, Cond.selects RX1 yX1_oneRound yX1_oneRound, Cond.code yX1_oneRound cX1_oneRound 2 none, Cond.methodLink RX1 91 yX1_rowStep, Cond.instanceMethod yX1_rowStep, Cond.selects RX1 yX1_rowStep yX1_rowStep, Cond.code yX1_rowStep cX1_rowStep 7 none, Cond.methodLink RX1 84 yX1_rowSum, Cond.instanceMethod yX1_rowSum, Cond.selects RX1 yX1_rowSum yX1_rowSum, Cond.code yX1_rowSum cX1_rowSum 5 (some .double)]
def wsL_law0_r13 : List Cond := [Cond.methodLink RX1 95 yX1_columnStep, Cond.instanceMethod yX1_columnStep, Cond.selects RX1 yX1_columnStep yX1_columnStep, Cond.code yX1_columnStep cX1_columnStep 7 none, Cond.methodLink RX1 88 yX1_columnSum, Cond.instanceMethod yX1_columnSum, Cond.selects RX1 yX1_columnSum yX1_columnSum, Cond.code yX1_columnSum cX1_columnSum 5 (some .double), Cond.methodLink RL 116 yL_fit, Cond.static yL_fit, Cond.codeWith yL_fit cL_fit 5 (some .int) [(0, 10, 13, 13)], Cond.methodLink RL 39 yX0_fit, Cond.instanceMethod yX0_fit, Cond.selects RX0 yX0_fit yX0_fit, Cond.code yX0_fit cX0_fit 6 (some .int), Cond.constant RX0 98 (100000), Cond.constantDouble RX0 99 (4652007308841189376), Cond.methodLink RX0 101 yX0_misfit, Cond.instanceMethod yX0_misfit, Cond.selects RX0 yX0_misfit yX0_misfit, Cond.code yX0_misfit cX0_misfit 8 (some .double), Cond.methodLink RX0 112 yX0_distance, Cond.static yX0_distance, Cond.code yX0_distance cX0_distance 6 (some .double)]
def wsL_law0_r14 : List Cond := [Cond.methodLink RL 118 yX1_fit, Cond.instanceMethod yX1_fit, Cond.selects RX1 yX1_fit yX1_fit, Cond.code yX1_fit cX1_fit 4 (some .int), Cond.constant RX1 105 (100000), Cond.constantDouble RX1 110 (4652007308841189376), Cond.methodLink RX1 106 yX1_misfitNow, Cond.instanceMethod yX1_misfitNow, Cond.selects RX1 yX1_misfitNow yX1_misfitNow, Cond.code yX1_misfitNow cX1_misfitNow 8 (some .double), Cond.methodLink RX1 98 yX1_far, Cond.static yX1_far, Cond.code yX1_far cX1_far 4 (some .double), Cond.methodLink RL 119 yX0_reset, Cond.instanceMethod yX0_reset, Cond.selects RX0 yX0_reset yX0_reset, Cond.code yX0_reset cX0_reset 2 (some .int), Cond.methodLink RL 122 yX1_reset, Cond.instanceMethod yX1_reset, Cond.selects RX1 yX1_reset yX1_reset, Cond.code yX1_reset cX1_reset 2 (some .int), Cond.methodLink RL 123 yX0_rounds, Cond.instanceMethod yX0_rounds, Cond.selects RX0 yX0_rounds yX0_rounds]
def wsL_law0_r15 : List Cond := [Cond.code yX0_rounds cX0_rounds 1 (some .int), Cond.methodLink RL 126 yX1_rounds, Cond.instanceMethod yX1_rounds, Cond.selects RX1 yX1_rounds yX1_rounds, Cond.code yX1_rounds cX1_rounds 1 (some .int), Cond.methodLink RL 127 yL_estimate, Cond.static yL_estimate, Cond.codeWith yL_estimate cL_estimate 5 (some .int) [(0, 9, 12, 19)], Cond.methodLink RL 42 yX0_estimate, Cond.instanceMethod yX0_estimate, Cond.selects RX0 yX0_estimate yX0_estimate, Cond.code yX0_estimate cX0_estimate 3 (some .double), Cond.methodLink RL 130 yX1_estimate, Cond.instanceMethod yX1_estimate, Cond.selects RX1 yX1_estimate yX1_estimate, Cond.code yX1_estimate cX1_estimate 3 (some .double), Cond.methodLink RX1 112 yX1_areArms, Cond.instanceMethod yX1_areArms, Cond.selects RX1 yX1_areArms yX1_areArms, Cond.code yX1_areArms cX1_areArms 3 (some .boolean), Cond.methodLink RL 131 yL_sum, Cond.static yL_sum, Cond.codeWith yL_sum cL_sum 5 (some .int) [(0, 9, 12, 19)], Cond.methodLink RL 46 yX0_sum]
def wsL_law0_r16 : List Cond := [Cond.instanceMethod yX0_sum, Cond.selects RX0 yX0_sum yX0_sum, Cond.code yX0_sum cX0_sum 3 (some .double), Cond.methodLink RL 134 yX1_sum, Cond.instanceMethod yX1_sum, Cond.selects RX1 yX1_sum yX1_sum, Cond.code yX1_sum cX1_sum 3 (some .double), Cond.methodLink RL 135 yX0_misfit, Cond.methodLink RL 139 yX1_misfit, Cond.instanceMethod yX1_misfit, Cond.selects RX1 yX1_misfit yX1_misfit, Cond.code yX1_misfit cX1_misfit 1 (some .double), Cond.methodLink RL 140 yL_share, Cond.static yL_share, Cond.codeWith yL_share cL_share 5 (some .int) [(0, 9, 12, 19)], Cond.methodLink RL 50 yX0_share, Cond.instanceMethod yX0_share, Cond.selects RX0 yX0_share yX0_share, Cond.code yX0_share cX0_share 5 (some .double), Cond.methodLink RL 142 yX1_share, Cond.instanceMethod yX1_share, Cond.selects RX1 yX1_share yX1_share, Cond.code yX1_share cX1_share 3 (some .double), Cond.methodLink RL 143 yL_crossRatio]
def wsL_law0_r17 : List Cond := [Cond.static yL_crossRatio, Cond.codeWith yL_crossRatio cL_crossRatio 7 (some .int) [(0, 13, 16, 19), (0, 13, 20, 57)], Cond.classLink RL 57 "java/lang/ArithmeticException", Cond.methodLink RL 53 yX0_crossRatio, Cond.instanceMethod yX0_crossRatio, Cond.selects RX0 yX0_crossRatio yX0_crossRatio, Cond.code yX0_crossRatio cX0_crossRatio 9 (some .double), Cond.classLink RX0 116 "java/lang/ArithmeticException", Cond.initialized "java/lang/ArithmeticException", Cond.methodLink RL 146 yX1_crossRatio, Cond.instanceMethod yX1_crossRatio, Cond.selects RX1 yX1_crossRatio yX1_crossRatio, Cond.code yX1_crossRatio cX1_crossRatio 9 (some .double), Cond.methodLink RL 147 yX0_busiestTurn, Cond.instanceMethod yX0_busiestTurn, Cond.selects RX0 yX0_busiestTurn yX0_busiestTurn, Cond.code yX0_busiestTurn cX0_busiestTurn 6 (some .int), Cond.methodLink RL 150 yX1_busiestTurn, Cond.instanceMethod yX1_busiestTurn, Cond.selects RX1 yX1_busiestTurn yX1_busiestTurn, Cond.code yX1_busiestTurn cX1_busiestTurn 1 (some .int), Cond.methodLink RX1 116 yX1_busiest, Cond.instanceMethod yX1_busiest, Cond.selects RX1 yX1_busiest yX1_busiest]
def wsL_law0_r18 : List Cond := [Cond.code yX1_busiest cX1_busiest 8 (some .int), Cond.methodLink RL 151 yL_rounded, Cond.static yL_rounded, Cond.codeWith yL_rounded cL_rounded 5 (some .int) [(0, 10, 13, 19)], Cond.methodLink RL 59 yX0_rounded, Cond.instanceMethod yX0_rounded, Cond.selects RX0 yX0_rounded yX0_rounded, Cond.code yX0_rounded cX0_rounded 3 (some .int), Cond.methodLink RX0 123 yX0_roundRow, Cond.instanceMethod yX0_roundRow, Cond.selects RX0 yX0_roundRow yX0_roundRow, Cond.code yX0_roundRow cX0_roundRow 9 none, Cond.methodLink RX0 203 yX0_raiseGreatestFractions, Cond.instanceMethod yX0_raiseGreatestFractions, Cond.selects RX0 yX0_raiseGreatestFractions yX0_raiseGreatestFractions, Cond.code yX0_raiseGreatestFractions cX0_raiseGreatestFractions 6 none, Cond.methodLink RX0 192 Lib.Math.min.name, Cond.static Lib.Math.min.name, Cond.initialized "java/lang/Math", Cond.code Lib.Math.min.name Lib.Math.min.code 2 (some .int), Cond.constantDouble RX0 209 (13830554455654793216), Cond.methodLink RX0 206 yX0_greatestFraction, Cond.instanceMethod yX0_greatestFraction, Cond.selects RX0 yX0_greatestFraction yX0_greatestFraction]
def wsL_law0_r19 : List Cond := [Cond.code yX0_greatestFraction cX0_greatestFraction 6 (some .int), Cond.methodLink RX0 189 yX0_isOpen, Cond.instanceMethod yX0_isOpen, Cond.selects RX0 yX0_isOpen yX0_isOpen, Cond.code yX0_isOpen cX0_isOpen 3 (some .boolean), Cond.methodLink RL 153 yX1_rounded, Cond.instanceMethod yX1_rounded, Cond.selects RX1 yX1_rounded yX1_rounded, Cond.code yX1_rounded cX1_rounded 3 (some .int), Cond.methodLink RX1 124 yX1_roundRow, Cond.instanceMethod yX1_roundRow, Cond.selects RX1 yX1_roundRow yX1_roundRow, Cond.code yX1_roundRow cX1_roundRow 8 none, Cond.constantDouble RX1 122 (13830554455654793216), Cond.methodLink RX1 119 yX1_nextOf, Cond.instanceMethod yX1_nextOf, Cond.selects RX1 yX1_nextOf yX1_nextOf, Cond.code yX1_nextOf cX1_nextOf 5 (some .int), Cond.methodLink RL 154 yX0_roundedMisfit, Cond.instanceMethod yX0_roundedMisfit, Cond.selects RX0 yX0_roundedMisfit yX0_roundedMisfit, Cond.code yX0_roundedMisfit cX0_roundedMisfit 1 (some .int), Cond.methodLink RX0 126 yX0_roundAllRows, Cond.instanceMethod yX0_roundAllRows]
def wsL_law0_r20 : List Cond := [Cond.selects RX0 yX0_roundAllRows yX0_roundAllRows, Cond.code yX0_roundAllRows cX0_roundAllRows 2 none, Cond.methodLink RX0 129 yX0_roundedDifference, Cond.instanceMethod yX0_roundedDifference, Cond.selects RX0 yX0_roundedDifference yX0_roundedDifference, Cond.code yX0_roundedDifference cX0_roundedDifference 5 (some .int), Cond.methodLink RX0 211 Lib.Math.abs.name, Cond.static Lib.Math.abs.name, Cond.code Lib.Math.abs.name Lib.Math.abs.code 1 (some .int), Cond.methodLink RL 157 yX1_roundedMisfit, Cond.instanceMethod yX1_roundedMisfit, Cond.selects RX1 yX1_roundedMisfit yX1_roundedMisfit, Cond.code yX1_roundedMisfit cX1_roundedMisfit 1 (some .int), Cond.methodLink RX1 130 yX1_wholeMisfit, Cond.instanceMethod yX1_wholeMisfit, Cond.selects RX1 yX1_wholeMisfit yX1_wholeMisfit, Cond.code yX1_wholeMisfit cX1_wholeMisfit 5 (some .int), Cond.methodLink RX1 127 yX1_layWhole, Cond.instanceMethod yX1_layWhole, Cond.selects RX1 yX1_layWhole yX1_layWhole, Cond.code yX1_layWhole cX1_layWhole 2 none, Cond.methodLink RL 158 yL_possible, Cond.static yL_possible, Cond.codeWith yL_possible cL_possible 5 (some .int) [(0, 10, 13, 19)]]
def wsL_law0_r21 : List Cond := [Cond.methodLink RL 62 yX0_possible, Cond.instanceMethod yX0_possible, Cond.selects RX0 yX0_possible yX0_possible, Cond.code yX0_possible cX0_possible 3 (some .int), Cond.methodLink RX0 132 yX0_fillPossibleTable, Cond.instanceMethod yX0_fillPossibleTable, Cond.selects RX0 yX0_fillPossibleTable yX0_fillPossibleTable, Cond.code yX0_fillPossibleTable cX0_fillPossibleTable 6 none, Cond.methodLink RX0 179 arraycopyName, Cond.native arraycopyName, Cond.static arraycopyName, Cond.initialized "java/lang/System", Cond.methodLink RX0 175 yX0_isPossible, Cond.methodLink RX0 185 yX0_greatestPossible, Cond.instanceMethod yX0_greatestPossible, Cond.selects RX0 yX0_greatestPossible yX0_greatestPossible, Cond.code yX0_greatestPossible cX0_greatestPossible 7 (some .int), Cond.methodLink RL 160 yX1_possible, Cond.instanceMethod yX1_possible, Cond.selects RX1 yX1_possible yX1_possible, Cond.code yX1_possible cX1_possible 3 (some .int), Cond.methodLink RX1 143 yX1_possibleNow, Cond.instanceMethod yX1_possibleNow, Cond.selects RX1 yX1_possibleNow yX1_possibleNow]
def wsL_law0_r22 : List Cond := [Cond.code yX1_possibleNow cX1_possibleNow 3 (some .int), Cond.methodLink RX1 140 yX1_layTable, Cond.instanceMethod yX1_layTable, Cond.selects RX1 yX1_layTable yX1_layTable, Cond.code yX1_layTable cX1_layTable 3 none, Cond.methodLink RX1 136 yX1_layCell, Cond.instanceMethod yX1_layCell, Cond.selects RX1 yX1_layCell yX1_layCell, Cond.code yX1_layCell cX1_layCell 6 none, Cond.methodLink RX1 133 yX1_leftBy, Cond.instanceMethod yX1_leftBy, Cond.selects RX1 yX1_leftBy yX1_leftBy, Cond.code yX1_leftBy cX1_leftBy 8 (some .int), Cond.methodLink RL 161 yX0_digest, Cond.instanceMethod yX0_digest, Cond.selects RX0 yX0_digest yX0_digest, Cond.code yX0_digest cX0_digest 5 (some .long), Cond.constantLong RX0 135 (1873), Cond.methodLink RX0 137 yX0_mixed, Cond.static yX0_mixed, Cond.code yX0_mixed cX0_mixed 4 (some .long), Cond.constantLong RX0 214 (31), Cond.methodLink RX0 141 yX0_mixedTurn, Cond.instanceMethod yX0_mixedTurn]
def wsL_law0_r23 : List Cond := [Cond.selects RX0 yX0_mixedTurn yX0_mixedTurn, Cond.code yX0_mixedTurn cX0_mixedTurn 6 (some .long), Cond.methodLink RX0 145 yX0_thousandthsOf, Cond.static yX0_thousandthsOf, Cond.code yX0_thousandthsOf cX0_thousandthsOf 2 (some .long), Cond.methodLink RX0 149 yX0_busiestTurn, Cond.methodLink RL 165 yX1_digest, Cond.instanceMethod yX1_digest, Cond.selects RX1 yX1_digest yX1_digest, Cond.code yX1_digest cX1_digest 2 (some .long), Cond.constantLong RX1 158 (1873), Cond.fieldLink RX1 148 "TurnEstimatorModel" "h" "J", Cond.methodLink RX1 152 yX1_mix, Cond.instanceMethod yX1_mix, Cond.selects RX1 yX1_mix yX1_mix, Cond.code yX1_mix cX1_mix 3 none, Cond.constantLong RX1 146 (31), Cond.methodLink RX1 160 yX1_mixTurns, Cond.instanceMethod yX1_mixTurns, Cond.selects RX1 yX1_mixTurns yX1_mixTurns, Cond.code yX1_mixTurns cX1_mixTurns 4 none, Cond.constantLong RX1 156 (-1)]
def wsL_law0 : List Cond := (wsL_law0_r1 ++ (wsL_law0_r2 ++ (wsL_law0_r3 ++ (wsL_law0_r4 ++ (wsL_law0_r5 ++ (wsL_law0_r6 ++ (wsL_law0_r7 ++ (wsL_law0_r8 ++ (wsL_law0_r9 ++ (wsL_law0_r10 ++ (wsL_law0_r11 ++ (wsL_law0_r12 ++ (wsL_law0_r13 ++ (wsL_law0_r14 ++ (wsL_law0_r15 ++ (wsL_law0_r16 ++ (wsL_law0_r17 ++ (wsL_law0_r18 ++ (wsL_law0_r19 ++ (wsL_law0_r20 ++ (wsL_law0_r21 ++ (wsL_law0_r22 ++ wsL_law0_r23)))))))))))))))))))))) ++ wsX00 ++ wsX10 ++ ([] : List Cond)
def wsL_law : List Cond := wsL_law0 ++ (vx_atM "java/lang/ArrayIndexOutOfBoundsException" ["java/lang/IndexOutOfBoundsException", "java/lang/RuntimeException", "java/lang/Exception"]).filter goodWord ++ (vx_atS RX0 161 "java/lang/IllegalArgumentException" ["java/lang/RuntimeException", "java/lang/Exception"]).filter goodWord ++ (vx_atS RX0 156 "java/lang/IndexOutOfBoundsException" ["java/lang/RuntimeException", "java/lang/Exception"]).filter goodWord ++ (vx_atS RX0 166 "java/lang/IllegalStateException" ["java/lang/RuntimeException", "java/lang/Exception"]).filter goodWord ++ (vx_atS RX0 120 "java/lang/ArithmeticException" ["java/lang/RuntimeException", "java/lang/Exception"]).filter goodWord
end
section
set_option maxRecDepth 20000 in
theorem in_wsL_law0_r1 : ∀ w ∈ wsL_law0_r1, w ∈ lw_tbl := by decide +kernel
set_option maxRecDepth 20000 in
theorem in_wsL_law0_r2 : ∀ w ∈ wsL_law0_r2, w ∈ lw_tbl := by decide +kernel
set_option maxRecDepth 20000 in
theorem in_wsL_law0_r3 : ∀ w ∈ wsL_law0_r3, w ∈ lw_tbl := by decide +kernel
set_option maxRecDepth 20000 in
theorem in_wsL_law0_r4 : ∀ w ∈ wsL_law0_r4, w ∈ lw_tbl := by decide +kernel
set_option maxRecDepth 20000 in
theorem in_wsL_law0_r5 : ∀ w ∈ wsL_law0_r5, w ∈ lw_tbl := by decide +kernel
set_option maxRecDepth 20000 in
theorem in_wsL_law0_r6 : ∀ w ∈ wsL_law0_r6, w ∈ lw_tbl := by decide +kernel
set_option maxRecDepth 20000 in
theorem in_wsL_law0_r7 : ∀ w ∈ wsL_law0_r7, w ∈ lw_tbl := by decide +kernel
set_option maxRecDepth 20000 in
theorem in_wsL_law0_r8 : ∀ w ∈ wsL_law0_r8, w ∈ lw_tbl := by decide +kernel
set_option maxRecDepth 20000 in
theorem in_wsL_law0_r9 : ∀ w ∈ wsL_law0_r9, w ∈ lw_tbl := by decide +kernel
set_option maxRecDepth 20000 in
theorem in_wsL_law0_r10 : ∀ w ∈ wsL_law0_r10, w ∈ lw_tbl := by decide +kernel
set_option maxRecDepth 20000 in
theorem in_wsL_law0_r11 : ∀ w ∈ wsL_law0_r11, w ∈ lw_tbl := by decide +kernel
set_option maxRecDepth 20000 in
theorem in_wsL_law0_r12 : ∀ w ∈ wsL_law0_r12, w ∈ lw_tbl := by decide +kernel
set_option maxRecDepth 20000 in
theorem in_wsL_law0_r13 : ∀ w ∈ wsL_law0_r13, w ∈ lw_tbl := by decide +kernel
set_option maxRecDepth 20000 in
theorem in_wsL_law0_r14 : ∀ w ∈ wsL_law0_r14, w ∈ lw_tbl := by decide +kernel
set_option maxRecDepth 20000 in
theorem in_wsL_law0_r15 : ∀ w ∈ wsL_law0_r15, w ∈ lw_tbl := by decide +kernel
set_option maxRecDepth 20000 in
theorem in_wsL_law0_r16 : ∀ w ∈ wsL_law0_r16, w ∈ lw_tbl := by decide +kernel
set_option maxRecDepth 20000 in
theorem in_wsL_law0_r17 : ∀ w ∈ wsL_law0_r17, w ∈ lw_tbl := by decide +kernel
set_option maxRecDepth 20000 in
theorem in_wsL_law0_r18 : ∀ w ∈ wsL_law0_r18, w ∈ lw_tbl := by decide +kernel
set_option maxRecDepth 20000 in
theorem in_wsL_law0_r19 : ∀ w ∈ wsL_law0_r19, w ∈ lw_tbl := by decide +kernel
set_option maxRecDepth 20000 in
theorem in_wsL_law0_r20 : ∀ w ∈ wsL_law0_r20, w ∈ lw_tbl := by decide +kernel
set_option maxRecDepth 20000 in
theorem in_wsL_law0_r21 : ∀ w ∈ wsL_law0_r21, w ∈ lw_tbl := by decide +kernel
set_option maxRecDepth 20000 in
theorem in_wsL_law0_r22 : ∀ w ∈ wsL_law0_r22, w ∈ lw_tbl := by decide +kernel
set_option maxRecDepth 20000 in
theorem in_wsL_law0_r23 : ∀ w ∈ wsL_law0_r23, w ∈ lw_tbl := by decide +kernel
theorem in_X00 : ∀ w ∈ wsX00, w ∈ lw_tbl := by decide +kernel
theorem in_X10 : ∀ w ∈ wsX10, w ∈ lw_tbl := by decide +kernel
theorem wsL_law_in0 : ∀ w ∈ wsL_law0, w ∈ lw_tbl := fun w h => (List.mem_append.mp h).elim (fun h => (List.mem_append.mp h).elim (fun h => (List.mem_append.mp h).elim (fun h => (List.mem_append.mp h).elim (fun h => in_wsL_law0_r1 w h) (fun h => (List.mem_append.mp h).elim (fun h => in_wsL_law0_r2 w h) (fun h => (List.mem_append.mp h).elim (fun h => in_wsL_law0_r3 w h) (fun h => (List.mem_append.mp h).elim (fun h => in_wsL_law0_r4 w h) (fun h => (List.mem_append.mp h).elim (fun h => in_wsL_law0_r5 w h) (fun h => (List.mem_append.mp h).elim (fun h => in_wsL_law0_r6 w h) (fun h => (List.mem_append.mp h).elim (fun h => in_wsL_law0_r7 w h) (fun h => (List.mem_append.mp h).elim (fun h => in_wsL_law0_r8 w h) (fun h => (List.mem_append.mp h).elim (fun h => in_wsL_law0_r9 w h) (fun h => (List.mem_append.mp h).elim (fun h => in_wsL_law0_r10 w h) (fun h => (List.mem_append.mp h).elim (fun h => in_wsL_law0_r11 w h) (fun h => (List.mem_append.mp h).elim (fun h => in_wsL_law0_r12 w h) (fun h => (List.mem_append.mp h).elim (fun h => in_wsL_law0_r13 w h) (fun h => (List.mem_append.mp h).elim (fun h => in_wsL_law0_r14 w h) (fun h => (List.mem_append.mp h).elim (fun h => in_wsL_law0_r15 w h) (fun h => (List.mem_append.mp h).elim (fun h => in_wsL_law0_r16 w h) (fun h => (List.mem_append.mp h).elim (fun h => in_wsL_law0_r17 w h) (fun h => (List.mem_append.mp h).elim (fun h => in_wsL_law0_r18 w h) (fun h => (List.mem_append.mp h).elim (fun h => in_wsL_law0_r19 w h) (fun h => (List.mem_append.mp h).elim (fun h => in_wsL_law0_r20 w h) (fun h => (List.mem_append.mp h).elim (fun h => in_wsL_law0_r21 w h) (fun h => (List.mem_append.mp h).elim (fun h => in_wsL_law0_r22 w h) (fun h => in_wsL_law0_r23 w h))))))))))))))))))))))) (fun h => in_X00 w h)) (fun h => in_X10 w h)) (fun h => nomatch h)
theorem wsL_law_x0 : ∀ w ∈ (vx_atM "java/lang/ArrayIndexOutOfBoundsException" ["java/lang/IndexOutOfBoundsException", "java/lang/RuntimeException", "java/lang/Exception"]).filter goodWord, w ∈ lw_tbl := by decide +kernel
theorem wsL_law_x1 : ∀ w ∈ (vx_atS RX0 161 "java/lang/IllegalArgumentException" ["java/lang/RuntimeException", "java/lang/Exception"]).filter goodWord, w ∈ lw_tbl := by decide +kernel
theorem wsL_law_x2 : ∀ w ∈ (vx_atS RX0 156 "java/lang/IndexOutOfBoundsException" ["java/lang/RuntimeException", "java/lang/Exception"]).filter goodWord, w ∈ lw_tbl := by decide +kernel
theorem wsL_law_x3 : ∀ w ∈ (vx_atS RX0 166 "java/lang/IllegalStateException" ["java/lang/RuntimeException", "java/lang/Exception"]).filter goodWord, w ∈ lw_tbl := by decide +kernel
theorem wsL_law_x4 : ∀ w ∈ (vx_atS RX0 120 "java/lang/ArithmeticException" ["java/lang/RuntimeException", "java/lang/Exception"]).filter goodWord, w ∈ lw_tbl := by decide +kernel
theorem wsL_law_in : ∀ w ∈ wsL_law, w ∈ lw_tbl := fun w h => (List.mem_append.mp h).elim (fun h => (List.mem_append.mp h).elim (fun h => (List.mem_append.mp h).elim (fun h => (List.mem_append.mp h).elim (fun h => (List.mem_append.mp h).elim (fun h => wsL_law_in0 w h) (fun h => wsL_law_x0 w h)) (fun h => wsL_law_x1 w h)) (fun h => wsL_law_x2 w h)) (fun h => wsL_law_x3 w h)) (fun h => wsL_law_x4 w h)
theorem inlX0 : ∀ w ∈ wsX00, w ∈ wsL_law := fun _ h => List.mem_append_left _ (List.mem_append_left _ (List.mem_append_left _ (List.mem_append_left _ (List.mem_append_left _ (List.mem_append_left _ (List.mem_append_left _ (List.mem_append_right _ h)))))))
theorem inX0 : ∀ w ∈ wsX00, w ∈ lw_tbl := fun w h => wsL_law_in w (inlX0 w h)
theorem inlX1 : ∀ w ∈ wsX10, w ∈ wsL_law := fun _ h => List.mem_append_left _ (List.mem_append_left _ (List.mem_append_left _ (List.mem_append_left _ (List.mem_append_left _ (List.mem_append_left _ (List.mem_append_right _ h))))))
theorem inX1 : ∀ w ∈ wsX10, w ∈ lw_tbl := fun w h => wsL_law_in w (inlX1 w h)
theorem inJx00060 : ∀ w ∈ wsJx000600, w ∈ lw_tbl := by decide +kernel
theorem inJ9 : ∀ w ∈ wsJ90, w ∈ lw_tbl := by decide +kernel
theorem inJ0 : ∀ w ∈ wsJ00, w ∈ lw_tbl := by decide +kernel
theorem inJ10 : ∀ w ∈ wsJ100, w ∈ lw_tbl := by decide +kernel
end
section
set_option maxRecDepth 20000 in
theorem ggX0_init_X0_beginJunction : GoodIn wsX0_init wsX0_beginJunction := goodIn_ca (goodIn_r _ [19, 20, 5, 6, 10, 21, 22, 23, 18, 24, 7, 25, 26, 27, 28, 29, 30, 31, 9, 32, 33, 34, 35, 36, 37, 38, 39, 40, 41, 42, 43] (by decide +kernel) (by decide +kernel)) (goodIn_sub (fun _ h => List.mem_cons_of_mem _ (List.mem_append_right _ h)) (by decide +kernel))
set_option maxRecDepth 20000 in
theorem gX0_init_X0_beginJunction : GoodIn wsX0_init (wsV RX0 38 RX0 yX0_beginJunction wsX0_beginJunction) := goodIn_app (goodIn_of _ (by decide +kernel)) ggX0_init_X0_beginJunction
theorem dX0_init_0 : decode cX0_init 0 = .ok (.aload_n 0, 1) := by decide +kernel
theorem dX0_init_1 : decode cX0_init 1 = .ok (.invokespecial 1, 3) := by decide +kernel
theorem dX0_init_4 : decode cX0_init 4 = .ok (.aload_n 0, 1) := by decide +kernel
theorem dX0_init_5 : decode cX0_init 5 = .ok (.bipush 6, 2) := by decide +kernel
theorem dX0_init_7 : decode cX0_init 7 = .ok (.newarray .int, 2) := by decide +kernel
theorem dX0_init_9 : decode cX0_init 9 = .ok (.putfield 9, 3) := by decide +kernel
theorem dX0_init_12 : decode cX0_init 12 = .ok (.aload_n 0, 1) := by decide +kernel
theorem dX0_init_13 : decode cX0_init 13 = .ok (.bipush 6, 2) := by decide +kernel
theorem dX0_init_15 : decode cX0_init 15 = .ok (.newarray .int, 2) := by decide +kernel
theorem dX0_init_17 : decode cX0_init 17 = .ok (.putfield 13, 3) := by decide +kernel
theorem dX0_init_20 : decode cX0_init 20 = .ok (.aload_n 0, 1) := by decide +kernel
theorem dX0_init_21 : decode cX0_init 21 = .ok (.bipush 36, 2) := by decide +kernel
theorem dX0_init_23 : decode cX0_init 23 = .ok (.newarray .int, 2) := by decide +kernel
theorem dX0_init_25 : decode cX0_init 25 = .ok (.putfield 16, 3) := by decide +kernel
theorem dX0_init_28 : decode cX0_init 28 = .ok (.aload_n 0, 1) := by decide +kernel
theorem dX0_init_29 : decode cX0_init 29 = .ok (.bipush 36, 2) := by decide +kernel
theorem dX0_init_31 : decode cX0_init 31 = .ok (.newarray .double, 2) := by decide +kernel
theorem dX0_init_33 : decode cX0_init 33 = .ok (.putfield 19, 3) := by decide +kernel
theorem dX0_init_36 : decode cX0_init 36 = .ok (.aload_n 0, 1) := by decide +kernel
theorem dX0_init_37 : decode cX0_init 37 = .ok (.bipush 6, 2) := by decide +kernel
theorem dX0_init_39 : decode cX0_init 39 = .ok (.newarray .int, 2) := by decide +kernel
theorem dX0_init_41 : decode cX0_init 41 = .ok (.putfield 23, 3) := by decide +kernel
theorem dX0_init_44 : decode cX0_init 44 = .ok (.aload_n 0, 1) := by decide +kernel
theorem dX0_init_45 : decode cX0_init 45 = .ok (.bipush 36, 2) := by decide +kernel
theorem dX0_init_47 : decode cX0_init 47 = .ok (.newarray .int, 2) := by decide +kernel
theorem dX0_init_49 : decode cX0_init 49 = .ok (.putfield 26, 3) := by decide +kernel
theorem dX0_init_52 : decode cX0_init 52 = .ok (.aload_n 0, 1) := by decide +kernel
theorem dX0_init_53 : decode cX0_init 53 = .ok (.bipush 36, 2) := by decide +kernel
theorem dX0_init_55 : decode cX0_init 55 = .ok (.newarray .int, 2) := by decide +kernel
theorem dX0_init_57 : decode cX0_init 57 = .ok (.putfield 29, 3) := by decide +kernel
theorem dX0_init_60 : decode cX0_init 60 = .ok (.aload_n 0, 1) := by decide +kernel
theorem dX0_init_61 : decode cX0_init 61 = .ok (.bipush 6, 2) := by decide +kernel
theorem dX0_init_63 : decode cX0_init 63 = .ok (.newarray .int, 2) := by decide +kernel
theorem dX0_init_65 : decode cX0_init 65 = .ok (.putfield 32, 3) := by decide +kernel
theorem dX0_init_68 : decode cX0_init 68 = .ok (.aload_n 0, 1) := by decide +kernel
theorem dX0_init_69 : decode cX0_init 69 = .ok (.bipush 6, 2) := by decide +kernel
theorem dX0_init_71 : decode cX0_init 71 = .ok (.newarray .double, 2) := by decide +kernel
theorem dX0_init_73 : decode cX0_init 73 = .ok (.putfield 35, 3) := by decide +kernel
theorem dX0_init_76 : decode cX0_init 76 = .ok (.aload_n 0, 1) := by decide +kernel
theorem dX0_init_77 : decode cX0_init 77 = .ok (.iconst 4, 1) := by decide +kernel
theorem dX0_init_78 : decode cX0_init 78 = .ok (.invokevirtual 38, 3) := by decide +kernel
theorem dX0_init_81 : decode cX0_init 81 = .ok (.return_, 1) := by decide +kernel
set_option maxRecDepth 20000 in
theorem ggX0_setArms_X0_requireWithin : GoodIn wsX0_setArms wsX0_requireWithin := goodIn_ca (goodIn_r _ [5, 6, 7] (by decide +kernel) (by decide +kernel)) (goodIn_sub (fun _ h => List.mem_cons_of_mem _ (List.mem_append_left _ (List.mem_append_right _ h))) (by decide +kernel))
set_option maxRecDepth 20000 in
theorem gX0_setArms_X0_requireWithin : GoodIn wsX0_setArms (va_wsS RX0 42 yX0_requireWithin wsX0_requireWithin) := goodIn_app (goodIn_of _ (by decide +kernel)) ggX0_setArms_X0_requireWithin
set_option maxRecDepth 20000 in
theorem ggX0_setArms_X0_beginJunction : GoodIn wsX0_setArms wsX0_beginJunction := goodIn_ca (goodIn_r _ [11, 1, 12, 13, 14, 15, 16, 17, 4, 18, 19, 20, 21, 22, 23, 24, 25, 26, 27, 28, 29, 30, 31, 32, 33, 34, 35, 36, 37, 38, 39] (by decide +kernel) (by decide +kernel)) (goodIn_sub (fun _ h => List.mem_cons_of_mem _ (List.mem_append_right _ h)) (by decide +kernel))
set_option maxRecDepth 20000 in
theorem gX0_setArms_X0_beginJunction : GoodIn wsX0_setArms (wsV RX0 38 RX0 yX0_beginJunction wsX0_beginJunction) := goodIn_app (goodIn_of _ (by decide +kernel)) ggX0_setArms_X0_beginJunction
theorem dX0_setArms_0 : decode cX0_setArms 0 = .ok (.iload_n 1, 1) := by decide +kernel
theorem dX0_setArms_1 : decode cX0_setArms 1 = .ok (.iconst 3, 1) := by decide +kernel
theorem dX0_setArms_2 : decode cX0_setArms 2 = .ok (.bipush 6, 2) := by decide +kernel
theorem dX0_setArms_4 : decode cX0_setArms 4 = .ok (.invokestatic 42, 3) := by decide +kernel
theorem dX0_setArms_7 : decode cX0_setArms 7 = .ok (.aload_n 0, 1) := by decide +kernel
theorem dX0_setArms_8 : decode cX0_setArms 8 = .ok (.getfield 46, 3) := by decide +kernel
theorem dX0_setArms_11 : decode cX0_setArms 11 = .ok (.istore_n 2, 1) := by decide +kernel
theorem dX0_setArms_12 : decode cX0_setArms 12 = .ok (.aload_n 0, 1) := by decide +kernel
theorem dX0_setArms_13 : decode cX0_setArms 13 = .ok (.iload_n 1, 1) := by decide +kernel
theorem dX0_setArms_14 : decode cX0_setArms 14 = .ok (.invokevirtual 38, 3) := by decide +kernel
theorem dX0_setArms_17 : decode cX0_setArms 17 = .ok (.iload_n 2, 1) := by decide +kernel
theorem dX0_setArms_18 : decode cX0_setArms 18 = .ok (.ireturn, 1) := by decide +kernel
theorem dX0_arms_0 : decode cX0_arms 0 = .ok (.aload_n 0, 1) := by decide +kernel
theorem dX0_arms_1 : decode cX0_arms 1 = .ok (.getfield 46, 3) := by decide +kernel
theorem dX0_arms_4 : decode cX0_arms 4 = .ok (.ireturn, 1) := by decide +kernel
set_option maxRecDepth 20000 in
theorem ggX0_setInflow_X0_setCount : GoodIn wsX0_setInflow wsX0_setCount := goodIn_ca (goodIn_ca (goodIn_ca (goodIn_r _ [6, 7, 8, 9, 5, 10, 11, 12, 13, 14, 15, 16, 17, 18, 19, 20, 21, 22, 23, 24, 25, 26, 27, 28, 29, 30, 31, 32, 33, 34, 35, 36, 37, 38, 39] (by decide +kernel) (by decide +kernel)) (goodIn_sub (fun _ h => List.mem_cons_of_mem _ (List.mem_append_left _ (List.mem_append_left _ (List.mem_append_right _ h)))) (by decide +kernel))) (goodIn_sub (fun _ h => List.mem_cons_of_mem _ (List.mem_append_left _ (List.mem_append_right _ h))) (by decide +kernel))) (goodIn_sub (fun _ h => List.mem_cons_of_mem _ (List.mem_append_right _ h)) (by decide +kernel))
set_option maxRecDepth 20000 in
theorem gX0_setInflow_X0_setCount : GoodIn wsX0_setInflow (wsV RX0 50 RX0 yX0_setCount wsX0_setCount) := goodIn_app (goodIn_of _ (by decide +kernel)) ggX0_setInflow_X0_setCount
theorem dX0_setInflow_0 : decode cX0_setInflow 0 = .ok (.aload_n 0, 1) := by decide +kernel
theorem dX0_setInflow_1 : decode cX0_setInflow 1 = .ok (.aload_n 0, 1) := by decide +kernel
theorem dX0_setInflow_2 : decode cX0_setInflow 2 = .ok (.getfield 9, 3) := by decide +kernel
theorem dX0_setInflow_5 : decode cX0_setInflow 5 = .ok (.iload_n 1, 1) := by decide +kernel
theorem dX0_setInflow_6 : decode cX0_setInflow 6 = .ok (.iload_n 2, 1) := by decide +kernel
theorem dX0_setInflow_7 : decode cX0_setInflow 7 = .ok (.invokevirtual 50, 3) := by decide +kernel
theorem dX0_setInflow_10 : decode cX0_setInflow 10 = .ok (.ireturn, 1) := by decide +kernel
set_option maxRecDepth 20000 in
theorem ggX0_setOutflow_X0_setCount : GoodIn wsX0_setOutflow wsX0_setCount := goodIn_ca (goodIn_ca (goodIn_ca (goodIn_r _ [6, 7, 8, 9, 5, 10, 11, 12, 13, 14, 15, 16, 17, 18, 19, 20, 21, 22, 23, 24, 25, 26, 27, 28, 29, 30, 31, 32, 33, 34, 35, 36, 37, 38, 39] (by decide +kernel) (by decide +kernel)) (goodIn_sub (fun _ h => List.mem_cons_of_mem _ (List.mem_append_left _ (List.mem_append_left _ (List.mem_append_right _ h)))) (by decide +kernel))) (goodIn_sub (fun _ h => List.mem_cons_of_mem _ (List.mem_append_left _ (List.mem_append_right _ h))) (by decide +kernel))) (goodIn_sub (fun _ h => List.mem_cons_of_mem _ (List.mem_append_right _ h)) (by decide +kernel))
set_option maxRecDepth 20000 in
theorem gX0_setOutflow_X0_setCount : GoodIn wsX0_setOutflow (wsV RX0 50 RX0 yX0_setCount wsX0_setCount) := goodIn_app (goodIn_of _ (by decide +kernel)) ggX0_setOutflow_X0_setCount
theorem dX0_setOutflow_0 : decode cX0_setOutflow 0 = .ok (.aload_n 0, 1) := by decide +kernel
theorem dX0_setOutflow_1 : decode cX0_setOutflow 1 = .ok (.aload_n 0, 1) := by decide +kernel
theorem dX0_setOutflow_2 : decode cX0_setOutflow 2 = .ok (.getfield 13, 3) := by decide +kernel
theorem dX0_setOutflow_5 : decode cX0_setOutflow 5 = .ok (.iload_n 1, 1) := by decide +kernel
theorem dX0_setOutflow_6 : decode cX0_setOutflow 6 = .ok (.iload_n 2, 1) := by decide +kernel
theorem dX0_setOutflow_7 : decode cX0_setOutflow 7 = .ok (.invokevirtual 50, 3) := by decide +kernel
theorem dX0_setOutflow_10 : decode cX0_setOutflow 10 = .ok (.ireturn, 1) := by decide +kernel
set_option maxRecDepth 20000 in
theorem ggX0_setWeight_X0_requireArm : GoodIn wsX0_setWeight wsX0_requireArm := goodIn_ca (goodIn_r _ [6, 7, 8, 9, 29, 30, 31, 32, 33, 34, 35, 36, 37, 38, 39] (by decide +kernel) (by decide +kernel)) (goodIn_sub (fun _ h => List.mem_cons_of_mem _ (List.mem_append_left _ (List.mem_append_right _ h))) (by decide +kernel))
set_option maxRecDepth 20000 in
theorem gX0_setWeight_X0_requireArm : GoodIn wsX0_setWeight (wsV RX0 54 RX0 yX0_requireArm wsX0_requireArm) := goodIn_app (goodIn_of _ (by decide +kernel)) ggX0_setWeight_X0_requireArm
set_option maxRecDepth 20000 in
theorem ggX0_setWeight_X0_requireWithin : GoodIn wsX0_setWeight wsX0_requireWithin := goodIn_ca (goodIn_r _ [12, 13, 14] (by decide +kernel) (by decide +kernel)) (goodIn_sub (fun _ h => List.mem_cons_of_mem _ (List.mem_append_right _ h)) (by decide +kernel))
set_option maxRecDepth 20000 in
theorem gX0_setWeight_X0_requireWithin : GoodIn wsX0_setWeight (va_wsS RX0 42 yX0_requireWithin wsX0_requireWithin) := goodIn_app (goodIn_of _ (by decide +kernel)) ggX0_setWeight_X0_requireWithin
set_option maxRecDepth 20000 in
theorem ggX0_setWeight_X0_turn : GoodIn wsX0_setWeight wsX0_turn := goodIn_r _ [17] (by decide +kernel) (by decide +kernel)
set_option maxRecDepth 20000 in
theorem gX0_setWeight_X0_turn : GoodIn wsX0_setWeight (va_wsS RX0 57 yX0_turn wsX0_turn) := goodIn_app (goodIn_of _ (by decide +kernel)) ggX0_setWeight_X0_turn
set_option maxRecDepth 20000 in
theorem ggX0_setWeight_X0_putWeight : GoodIn wsX0_setWeight wsX0_putWeight := goodIn_ca (goodIn_r _ [21, 1, 22, 15, 16, 5, 17, 29, 30, 31, 32, 33, 34, 35, 36, 37, 38, 39] (by decide +kernel) (by decide +kernel)) (goodIn_sub (fun _ h => List.mem_cons_of_mem _ (List.mem_append_left _ (List.mem_append_left _ (List.mem_append_right _ h)))) (by decide +kernel))
set_option maxRecDepth 20000 in
theorem gX0_setWeight_X0_putWeight : GoodIn wsX0_setWeight (wsV RX0 61 RX0 yX0_putWeight wsX0_putWeight) := goodIn_app (goodIn_of _ (by decide +kernel)) ggX0_setWeight_X0_putWeight
set_option maxRecDepth 20000 in
theorem ggX0_setWeight_X0_resetEstimate : GoodIn wsX0_setWeight wsX0_resetEstimate := goodIn_ca (goodIn_r _ [26, 9, 27, 1, 28, 15, 16, 5, 17, 29, 30, 31, 32, 33, 34, 35, 36, 37, 38, 39] (by decide +kernel) (by decide +kernel)) (goodIn_sub (fun _ h => List.mem_cons_of_mem _ (List.mem_append_left _ (List.mem_append_left _ (List.mem_append_right _ h)))) (by decide +kernel))
set_option maxRecDepth 20000 in
theorem gX0_setWeight_X0_resetEstimate : GoodIn wsX0_setWeight (wsV RX0 64 RX0 yX0_resetEstimate wsX0_resetEstimate) := goodIn_app (goodIn_of _ (by decide +kernel)) ggX0_setWeight_X0_resetEstimate
theorem dX0_setWeight_0 : decode cX0_setWeight 0 = .ok (.aload_n 0, 1) := by decide +kernel
theorem dX0_setWeight_1 : decode cX0_setWeight 1 = .ok (.iload_n 1, 1) := by decide +kernel
theorem dX0_setWeight_2 : decode cX0_setWeight 2 = .ok (.invokevirtual 54, 3) := by decide +kernel
theorem dX0_setWeight_5 : decode cX0_setWeight 5 = .ok (.aload_n 0, 1) := by decide +kernel
theorem dX0_setWeight_6 : decode cX0_setWeight 6 = .ok (.iload_n 2, 1) := by decide +kernel
theorem dX0_setWeight_7 : decode cX0_setWeight 7 = .ok (.invokevirtual 54, 3) := by decide +kernel
theorem dX0_setWeight_10 : decode cX0_setWeight 10 = .ok (.iload_n 3, 1) := by decide +kernel
theorem dX0_setWeight_11 : decode cX0_setWeight 11 = .ok (.iconst 0, 1) := by decide +kernel
theorem dX0_setWeight_12 : decode cX0_setWeight 12 = .ok (.bipush 99, 2) := by decide +kernel
theorem dX0_setWeight_14 : decode cX0_setWeight 14 = .ok (.invokestatic 42, 3) := by decide +kernel
theorem dX0_setWeight_17 : decode cX0_setWeight 17 = .ok (.aload_n 0, 1) := by decide +kernel
theorem dX0_setWeight_18 : decode cX0_setWeight 18 = .ok (.getfield 16, 3) := by decide +kernel
theorem dX0_setWeight_21 : decode cX0_setWeight 21 = .ok (.iload_n 1, 1) := by decide +kernel
theorem dX0_setWeight_22 : decode cX0_setWeight 22 = .ok (.iload_n 2, 1) := by decide +kernel
theorem dX0_setWeight_23 : decode cX0_setWeight 23 = .ok (.invokestatic 57, 3) := by decide +kernel
theorem dX0_setWeight_26 : decode cX0_setWeight 26 = .ok (.iaload, 1) := by decide +kernel
theorem dX0_setWeight_27 : decode cX0_setWeight 27 = .ok (.istore 4, 2) := by decide +kernel
theorem dX0_setWeight_29 : decode cX0_setWeight 29 = .ok (.aload_n 0, 1) := by decide +kernel
theorem dX0_setWeight_30 : decode cX0_setWeight 30 = .ok (.iload_n 1, 1) := by decide +kernel
theorem dX0_setWeight_31 : decode cX0_setWeight 31 = .ok (.iload_n 2, 1) := by decide +kernel
theorem dX0_setWeight_32 : decode cX0_setWeight 32 = .ok (.iload_n 3, 1) := by decide +kernel
theorem dX0_setWeight_33 : decode cX0_setWeight 33 = .ok (.invokevirtual 61, 3) := by decide +kernel
theorem dX0_setWeight_36 : decode cX0_setWeight 36 = .ok (.aload_n 0, 1) := by decide +kernel
theorem dX0_setWeight_37 : decode cX0_setWeight 37 = .ok (.invokevirtual 64, 3) := by decide +kernel
theorem dX0_setWeight_40 : decode cX0_setWeight 40 = .ok (.iload 4, 2) := by decide +kernel
theorem dX0_setWeight_42 : decode cX0_setWeight 42 = .ok (.ireturn, 1) := by decide +kernel
set_option maxRecDepth 20000 in
theorem ggX0_scale_X0_requireWithin : GoodIn wsX0_scale wsX0_requireWithin := goodIn_ca (goodIn_r _ [7, 8, 9] (by decide +kernel) (by decide +kernel)) (goodIn_sub (fun _ h => List.mem_cons_of_mem _ (List.mem_append_left _ (List.mem_append_right _ h))) (by decide +kernel))
set_option maxRecDepth 20000 in
theorem gX0_scale_X0_requireWithin : GoodIn wsX0_scale (va_wsS RX0 42 yX0_requireWithin wsX0_requireWithin) := goodIn_app (goodIn_of _ (by decide +kernel)) ggX0_scale_X0_requireWithin
set_option maxRecDepth 20000 in
theorem ggX0_scale_X0_requireScalable : GoodIn wsX0_scale wsX0_requireScalable := goodIn_ca (goodIn_r _ [12, 13, 14, 15, 16, 6, 17] (by decide +kernel) (by decide +kernel)) (goodIn_sub (fun _ h => List.mem_cons_of_mem _ (List.mem_append_right _ h)) (by decide +kernel))
set_option maxRecDepth 20000 in
theorem gX0_scale_X0_requireScalable : GoodIn wsX0_scale (va_wsS RX0 67 yX0_requireScalable wsX0_requireScalable) := goodIn_app (goodIn_of _ (by decide +kernel)) ggX0_scale_X0_requireScalable
set_option maxRecDepth 20000 in
theorem ggX0_scale_X0_scaled : GoodIn wsX0_scale wsX0_scaled := goodIn_r _ [17] (by decide +kernel) (by decide +kernel)
set_option maxRecDepth 20000 in
theorem gX0_scale_X0_scaled : GoodIn wsX0_scale (va_wsS RX0 71 yX0_scaled wsX0_scaled) := goodIn_app (goodIn_of _ (by decide +kernel)) ggX0_scale_X0_scaled
set_option maxRecDepth 20000 in
theorem ggX0_scale_X0_resetEstimate : GoodIn wsX0_scale wsX0_resetEstimate := goodIn_ca (goodIn_r _ [21, 1, 22, 23, 24, 25, 26, 6, 27, 32, 33, 34, 35, 36, 37, 38, 39, 40, 41, 42] (by decide +kernel) (by decide +kernel)) (goodIn_sub (fun _ h => List.mem_cons_of_mem _ (List.mem_append_left _ (List.mem_append_left _ (List.mem_append_right _ h)))) (by decide +kernel))
set_option maxRecDepth 20000 in
theorem gX0_scale_X0_resetEstimate : GoodIn wsX0_scale (wsV RX0 64 RX0 yX0_resetEstimate wsX0_resetEstimate) := goodIn_app (goodIn_of _ (by decide +kernel)) ggX0_scale_X0_resetEstimate
set_option maxRecDepth 20000 in
theorem ggX0_scale_X0_total : GoodIn wsX0_scale wsX0_total := goodIn_ca (goodIn_r _ [31, 1, 32, 33, 34, 35, 36, 37, 38, 39, 40, 41, 42] (by decide +kernel) (by decide +kernel)) (goodIn_sub (fun _ h => List.mem_cons_of_mem _ (List.mem_append_left _ (List.mem_append_left _ (List.mem_append_right _ h)))) (by decide +kernel))
set_option maxRecDepth 20000 in
theorem gX0_scale_X0_total : GoodIn wsX0_scale (wsV RX0 74 RX0 yX0_total wsX0_total) := goodIn_app (goodIn_of _ (by decide +kernel)) ggX0_scale_X0_total
theorem dX0_scale_0 : decode cX0_scale 0 = .ok (.iload_n 1, 1) := by decide +kernel
theorem dX0_scale_1 : decode cX0_scale 1 = .ok (.iconst 0, 1) := by decide +kernel
theorem dX0_scale_2 : decode cX0_scale 2 = .ok (.sipush 300, 3) := by decide +kernel
theorem dX0_scale_5 : decode cX0_scale 5 = .ok (.invokestatic 42, 3) := by decide +kernel
theorem dX0_scale_8 : decode cX0_scale 8 = .ok (.iconst 0, 1) := by decide +kernel
theorem dX0_scale_9 : decode cX0_scale 9 = .ok (.istore_n 2, 1) := by decide +kernel
theorem dX0_scale_10 : decode cX0_scale 10 = .ok (.iload_n 2, 1) := by decide +kernel
theorem dX0_scale_11 : decode cX0_scale 11 = .ok (.aload_n 0, 1) := by decide +kernel
theorem dX0_scale_12 : decode cX0_scale 12 = .ok (.getfield 46, 3) := by decide +kernel
theorem dX0_scale_15 : decode cX0_scale 15 = .ok (.if_icmp .ge 29, 3) := by decide +kernel
theorem dX0_scale_18 : decode cX0_scale 18 = .ok (.aload_n 0, 1) := by decide +kernel
theorem dX0_scale_19 : decode cX0_scale 19 = .ok (.getfield 9, 3) := by decide +kernel
theorem dX0_scale_22 : decode cX0_scale 22 = .ok (.iload_n 2, 1) := by decide +kernel
theorem dX0_scale_23 : decode cX0_scale 23 = .ok (.iaload, 1) := by decide +kernel
theorem dX0_scale_24 : decode cX0_scale 24 = .ok (.iload_n 1, 1) := by decide +kernel
theorem dX0_scale_25 : decode cX0_scale 25 = .ok (.invokestatic 67, 3) := by decide +kernel
theorem dX0_scale_28 : decode cX0_scale 28 = .ok (.aload_n 0, 1) := by decide +kernel
theorem dX0_scale_29 : decode cX0_scale 29 = .ok (.getfield 13, 3) := by decide +kernel
theorem dX0_scale_32 : decode cX0_scale 32 = .ok (.iload_n 2, 1) := by decide +kernel
theorem dX0_scale_33 : decode cX0_scale 33 = .ok (.iaload, 1) := by decide +kernel
theorem dX0_scale_34 : decode cX0_scale 34 = .ok (.iload_n 1, 1) := by decide +kernel
theorem dX0_scale_35 : decode cX0_scale 35 = .ok (.invokestatic 67, 3) := by decide +kernel
theorem dX0_scale_38 : decode cX0_scale 38 = .ok (.iinc 2 1, 3) := by decide +kernel
theorem dX0_scale_41 : decode cX0_scale 41 = .ok (.goto (-31), 3) := by decide +kernel
theorem dX0_scale_44 : decode cX0_scale 44 = .ok (.iconst 0, 1) := by decide +kernel
theorem dX0_scale_45 : decode cX0_scale 45 = .ok (.istore_n 2, 1) := by decide +kernel
theorem dX0_scale_46 : decode cX0_scale 46 = .ok (.iload_n 2, 1) := by decide +kernel
theorem dX0_scale_47 : decode cX0_scale 47 = .ok (.aload_n 0, 1) := by decide +kernel
theorem dX0_scale_48 : decode cX0_scale 48 = .ok (.getfield 46, 3) := by decide +kernel
theorem dX0_scale_51 : decode cX0_scale 51 = .ok (.if_icmp .ge 41, 3) := by decide +kernel
theorem dX0_scale_54 : decode cX0_scale 54 = .ok (.aload_n 0, 1) := by decide +kernel
theorem dX0_scale_55 : decode cX0_scale 55 = .ok (.getfield 9, 3) := by decide +kernel
theorem dX0_scale_58 : decode cX0_scale 58 = .ok (.iload_n 2, 1) := by decide +kernel
theorem dX0_scale_59 : decode cX0_scale 59 = .ok (.aload_n 0, 1) := by decide +kernel
theorem dX0_scale_60 : decode cX0_scale 60 = .ok (.getfield 9, 3) := by decide +kernel
theorem dX0_scale_63 : decode cX0_scale 63 = .ok (.iload_n 2, 1) := by decide +kernel
theorem dX0_scale_64 : decode cX0_scale 64 = .ok (.iaload, 1) := by decide +kernel
theorem dX0_scale_65 : decode cX0_scale 65 = .ok (.iload_n 1, 1) := by decide +kernel
theorem dX0_scale_66 : decode cX0_scale 66 = .ok (.invokestatic 71, 3) := by decide +kernel
theorem dX0_scale_69 : decode cX0_scale 69 = .ok (.iastore, 1) := by decide +kernel
theorem dX0_scale_70 : decode cX0_scale 70 = .ok (.aload_n 0, 1) := by decide +kernel
theorem dX0_scale_71 : decode cX0_scale 71 = .ok (.getfield 13, 3) := by decide +kernel
theorem dX0_scale_74 : decode cX0_scale 74 = .ok (.iload_n 2, 1) := by decide +kernel
theorem dX0_scale_75 : decode cX0_scale 75 = .ok (.aload_n 0, 1) := by decide +kernel
theorem dX0_scale_76 : decode cX0_scale 76 = .ok (.getfield 13, 3) := by decide +kernel
theorem dX0_scale_79 : decode cX0_scale 79 = .ok (.iload_n 2, 1) := by decide +kernel
theorem dX0_scale_80 : decode cX0_scale 80 = .ok (.iaload, 1) := by decide +kernel
theorem dX0_scale_81 : decode cX0_scale 81 = .ok (.iload_n 1, 1) := by decide +kernel
theorem dX0_scale_82 : decode cX0_scale 82 = .ok (.invokestatic 71, 3) := by decide +kernel
theorem dX0_scale_85 : decode cX0_scale 85 = .ok (.iastore, 1) := by decide +kernel
theorem dX0_scale_86 : decode cX0_scale 86 = .ok (.iinc 2 1, 3) := by decide +kernel
theorem dX0_scale_89 : decode cX0_scale 89 = .ok (.goto (-43), 3) := by decide +kernel
theorem dX0_scale_92 : decode cX0_scale 92 = .ok (.aload_n 0, 1) := by decide +kernel
theorem dX0_scale_93 : decode cX0_scale 93 = .ok (.invokevirtual 64, 3) := by decide +kernel
theorem dX0_scale_96 : decode cX0_scale 96 = .ok (.aload_n 0, 1) := by decide +kernel
theorem dX0_scale_97 : decode cX0_scale 97 = .ok (.aload_n 0, 1) := by decide +kernel
theorem dX0_scale_98 : decode cX0_scale 98 = .ok (.getfield 9, 3) := by decide +kernel
theorem dX0_scale_101 : decode cX0_scale 101 = .ok (.invokevirtual 74, 3) := by decide +kernel
theorem dX0_scale_104 : decode cX0_scale 104 = .ok (.ireturn, 1) := by decide +kernel
set_option maxRecDepth 20000 in
theorem ggX0_imbalance_X0_total : GoodIn wsX0_imbalance wsX0_total := goodIn_ca (goodIn_r _ [7, 8, 9, 10, 11, 12, 13, 14, 15, 16, 17, 18, 19] (by decide +kernel) (by decide +kernel)) (goodIn_sub (fun _ h => List.mem_cons_of_mem _ (List.mem_append_right _ h)) (by decide +kernel))
set_option maxRecDepth 20000 in
theorem gX0_imbalance_X0_total : GoodIn wsX0_imbalance (wsV RX0 74 RX0 yX0_total wsX0_total) := goodIn_app (goodIn_of _ (by decide +kernel)) ggX0_imbalance_X0_total
theorem dX0_imbalance_0 : decode cX0_imbalance 0 = .ok (.aload_n 0, 1) := by decide +kernel
theorem dX0_imbalance_1 : decode cX0_imbalance 1 = .ok (.aload_n 0, 1) := by decide +kernel
theorem dX0_imbalance_2 : decode cX0_imbalance 2 = .ok (.getfield 9, 3) := by decide +kernel
theorem dX0_imbalance_5 : decode cX0_imbalance 5 = .ok (.invokevirtual 74, 3) := by decide +kernel
theorem dX0_imbalance_8 : decode cX0_imbalance 8 = .ok (.aload_n 0, 1) := by decide +kernel
theorem dX0_imbalance_9 : decode cX0_imbalance 9 = .ok (.aload_n 0, 1) := by decide +kernel
theorem dX0_imbalance_10 : decode cX0_imbalance 10 = .ok (.getfield 13, 3) := by decide +kernel
theorem dX0_imbalance_13 : decode cX0_imbalance 13 = .ok (.invokevirtual 74, 3) := by decide +kernel
theorem dX0_imbalance_16 : decode cX0_imbalance 16 = .ok (.isub, 1) := by decide +kernel
theorem dX0_imbalance_17 : decode cX0_imbalance 17 = .ok (.ireturn, 1) := by decide +kernel
set_option maxRecDepth 20000 in
theorem ggX0_isPossible_X0_imbalance : GoodIn wsX0_isPossible wsX0_imbalance := goodIn_ca (goodIn_r _ [5, 6, 7, 8, 9, 10, 4, 11, 12, 33, 34, 35, 36, 37, 38, 39, 40, 41, 42, 43] (by decide +kernel) (by decide +kernel)) (goodIn_sub (fun _ h => List.mem_cons_of_mem _ (List.mem_append_right _ h)) (by decide +kernel))
set_option maxRecDepth 20000 in
theorem gX0_isPossible_X0_imbalance : GoodIn wsX0_isPossible (wsV RX0 78 RX0 yX0_imbalance wsX0_imbalance) := goodIn_app (goodIn_of _ (by decide +kernel)) ggX0_isPossible_X0_imbalance
set_option maxRecDepth 20000 in
theorem ggX0_isPossible_X0_crowdedSet : GoodIn wsX0_isPossible wsX0_crowdedSet := goodIn_ca (goodIn_r _ [16, 7, 17, 18, 19, 4, 20, 12, 21, 22, 23, 24, 6, 25, 26, 27, 28, 29, 30, 31, 32, 33, 34, 35, 36, 37, 38, 39, 40, 41, 42, 43] (by decide +kernel) (by decide +kernel)) (goodIn_sub (fun _ h => List.mem_cons_of_mem _ (List.mem_append_right _ h)) (by decide +kernel))
set_option maxRecDepth 20000 in
theorem gX0_isPossible_X0_crowdedSet : GoodIn wsX0_isPossible (wsV RX0 82 RX0 yX0_crowdedSet wsX0_crowdedSet) := goodIn_app (goodIn_of _ (by decide +kernel)) ggX0_isPossible_X0_crowdedSet
theorem dX0_isPossible_0 : decode cX0_isPossible 0 = .ok (.aload_n 0, 1) := by decide +kernel
theorem dX0_isPossible_1 : decode cX0_isPossible 1 = .ok (.invokevirtual 78, 3) := by decide +kernel
theorem dX0_isPossible_4 : decode cX0_isPossible 4 = .ok (.ifCond .ne 15, 3) := by decide +kernel
theorem dX0_isPossible_7 : decode cX0_isPossible 7 = .ok (.aload_n 0, 1) := by decide +kernel
theorem dX0_isPossible_8 : decode cX0_isPossible 8 = .ok (.invokevirtual 82, 3) := by decide +kernel
theorem dX0_isPossible_11 : decode cX0_isPossible 11 = .ok (.iconst (-1), 1) := by decide +kernel
theorem dX0_isPossible_12 : decode cX0_isPossible 12 = .ok (.if_icmp .ne 7, 3) := by decide +kernel
theorem dX0_isPossible_15 : decode cX0_isPossible 15 = .ok (.iconst 1, 1) := by decide +kernel
theorem dX0_isPossible_16 : decode cX0_isPossible 16 = .ok (.goto 4, 3) := by decide +kernel
theorem dX0_isPossible_19 : decode cX0_isPossible 19 = .ok (.iconst 0, 1) := by decide +kernel
theorem dX0_isPossible_20 : decode cX0_isPossible 20 = .ok (.ireturn, 1) := by decide +kernel
set_option maxRecDepth 20000 in
theorem ggX0_crowdedSet_X0_allArms : GoodIn wsX0_crowdedSet wsX0_allArms := goodIn_r _ [6, 7, 21, 22, 23, 24, 25, 26, 27, 28, 29, 30, 31] (by decide +kernel) (by decide +kernel)
set_option maxRecDepth 20000 in
theorem gX0_crowdedSet_X0_allArms : GoodIn wsX0_crowdedSet (wsV RX0 85 RX0 yX0_allArms wsX0_allArms) := goodIn_app (goodIn_of _ (by decide +kernel)) ggX0_crowdedSet_X0_allArms
set_option maxRecDepth 20000 in
theorem ggX0_crowdedSet_X0_excessOver : GoodIn wsX0_crowdedSet wsX0_excessOver := goodIn_ca (goodIn_r _ [11, 7, 12, 13, 14, 15, 5, 16, 17, 18, 19, 20, 21, 22, 23, 24, 25, 26, 27, 28, 29, 30, 31] (by decide +kernel) (by decide +kernel)) (goodIn_sub (fun _ h => List.mem_cons_of_mem _ (List.mem_append_right _ h)) (by decide +kernel))
set_option maxRecDepth 20000 in
theorem gX0_crowdedSet_X0_excessOver : GoodIn wsX0_crowdedSet (wsV RX0 88 RX0 yX0_excessOver wsX0_excessOver) := goodIn_app (goodIn_of _ (by decide +kernel)) ggX0_crowdedSet_X0_excessOver
theorem dX0_crowdedSet_0 : decode cX0_crowdedSet 0 = .ok (.iconst 1, 1) := by decide +kernel
theorem dX0_crowdedSet_1 : decode cX0_crowdedSet 1 = .ok (.istore_n 1, 1) := by decide +kernel
theorem dX0_crowdedSet_2 : decode cX0_crowdedSet 2 = .ok (.iload_n 1, 1) := by decide +kernel
theorem dX0_crowdedSet_3 : decode cX0_crowdedSet 3 = .ok (.aload_n 0, 1) := by decide +kernel
theorem dX0_crowdedSet_4 : decode cX0_crowdedSet 4 = .ok (.invokevirtual 85, 3) := by decide +kernel
theorem dX0_crowdedSet_7 : decode cX0_crowdedSet 7 = .ok (.if_icmp .gt 23, 3) := by decide +kernel
theorem dX0_crowdedSet_10 : decode cX0_crowdedSet 10 = .ok (.aload_n 0, 1) := by decide +kernel
theorem dX0_crowdedSet_11 : decode cX0_crowdedSet 11 = .ok (.iload_n 1, 1) := by decide +kernel
theorem dX0_crowdedSet_12 : decode cX0_crowdedSet 12 = .ok (.aload_n 0, 1) := by decide +kernel
theorem dX0_crowdedSet_13 : decode cX0_crowdedSet 13 = .ok (.getfield 13, 3) := by decide +kernel
theorem dX0_crowdedSet_16 : decode cX0_crowdedSet 16 = .ok (.invokevirtual 88, 3) := by decide +kernel
theorem dX0_crowdedSet_19 : decode cX0_crowdedSet 19 = .ok (.ifCond .le 5, 3) := by decide +kernel
theorem dX0_crowdedSet_22 : decode cX0_crowdedSet 22 = .ok (.iload_n 1, 1) := by decide +kernel
theorem dX0_crowdedSet_23 : decode cX0_crowdedSet 23 = .ok (.ireturn, 1) := by decide +kernel
theorem dX0_crowdedSet_24 : decode cX0_crowdedSet 24 = .ok (.iinc 1 1, 3) := by decide +kernel
theorem dX0_crowdedSet_27 : decode cX0_crowdedSet 27 = .ok (.goto (-25), 3) := by decide +kernel
theorem dX0_crowdedSet_30 : decode cX0_crowdedSet 30 = .ok (.iconst (-1), 1) := by decide +kernel
theorem dX0_crowdedSet_31 : decode cX0_crowdedSet 31 = .ok (.ireturn, 1) := by decide +kernel
set_option maxRecDepth 20000 in
theorem ggX0_excess_X0_allArms : GoodIn wsX0_excess wsX0_allArms := goodIn_r _ [6, 7, 26, 27, 28, 29, 30, 31, 32, 33, 34, 35, 36] (by decide +kernel) (by decide +kernel)
set_option maxRecDepth 20000 in
theorem gX0_excess_X0_allArms : GoodIn wsX0_excess (wsV RX0 85 RX0 yX0_allArms wsX0_allArms) := goodIn_app (goodIn_of _ (by decide +kernel)) ggX0_excess_X0_allArms
set_option maxRecDepth 20000 in
theorem ggX0_excess_X0_requireWithin : GoodIn wsX0_excess wsX0_requireWithin := goodIn_ca (goodIn_r _ [10, 11, 12] (by decide +kernel) (by decide +kernel)) (goodIn_sub (fun _ h => List.mem_cons_of_mem _ (List.mem_append_left _ (List.mem_append_right _ h))) (by decide +kernel))
set_option maxRecDepth 20000 in
theorem gX0_excess_X0_requireWithin : GoodIn wsX0_excess (va_wsS RX0 42 yX0_requireWithin wsX0_requireWithin) := goodIn_app (goodIn_of _ (by decide +kernel)) ggX0_excess_X0_requireWithin
set_option maxRecDepth 20000 in
theorem ggX0_excess_X0_excessOver : GoodIn wsX0_excess wsX0_excessOver := goodIn_ca (goodIn_r _ [16, 7, 17, 18, 19, 20, 5, 21, 22, 23, 24, 25, 26, 27, 28, 29, 30, 31, 32, 33, 34, 35, 36] (by decide +kernel) (by decide +kernel)) (goodIn_sub (fun _ h => List.mem_cons_of_mem _ (List.mem_append_right _ h)) (by decide +kernel))
set_option maxRecDepth 20000 in
theorem gX0_excess_X0_excessOver : GoodIn wsX0_excess (wsV RX0 88 RX0 yX0_excessOver wsX0_excessOver) := goodIn_app (goodIn_of _ (by decide +kernel)) ggX0_excess_X0_excessOver
theorem dX0_excess_0 : decode cX0_excess 0 = .ok (.iload_n 1, 1) := by decide +kernel
theorem dX0_excess_1 : decode cX0_excess 1 = .ok (.iconst 0, 1) := by decide +kernel
theorem dX0_excess_2 : decode cX0_excess 2 = .ok (.aload_n 0, 1) := by decide +kernel
theorem dX0_excess_3 : decode cX0_excess 3 = .ok (.invokevirtual 85, 3) := by decide +kernel
theorem dX0_excess_6 : decode cX0_excess 6 = .ok (.invokestatic 42, 3) := by decide +kernel
theorem dX0_excess_9 : decode cX0_excess 9 = .ok (.aload_n 0, 1) := by decide +kernel
theorem dX0_excess_10 : decode cX0_excess 10 = .ok (.iload_n 1, 1) := by decide +kernel
theorem dX0_excess_11 : decode cX0_excess 11 = .ok (.aload_n 0, 1) := by decide +kernel
theorem dX0_excess_12 : decode cX0_excess 12 = .ok (.getfield 13, 3) := by decide +kernel
theorem dX0_excess_15 : decode cX0_excess 15 = .ok (.invokevirtual 88, 3) := by decide +kernel
theorem dX0_excess_18 : decode cX0_excess 18 = .ok (.ireturn, 1) := by decide +kernel
set_option maxRecDepth 20000 in
theorem ggX0_iterate_X0_requireWithin : GoodIn wsX0_iterate wsX0_requireWithin := goodIn_ca (goodIn_r _ [5, 6, 7] (by decide +kernel) (by decide +kernel)) (goodIn_sub (fun _ h => List.mem_cons_of_mem _ (List.mem_append_left _ (List.mem_append_right _ h))) (by decide +kernel))
set_option maxRecDepth 20000 in
theorem gX0_iterate_X0_requireWithin : GoodIn wsX0_iterate (va_wsS RX0 42 yX0_requireWithin wsX0_requireWithin) := goodIn_app (goodIn_of _ (by decide +kernel)) ggX0_iterate_X0_requireWithin
set_option maxRecDepth 20000 in
theorem ggX0_iterate_X0_carryOutRound : GoodIn wsX0_iterate wsX0_carryOutRound := goodIn_ca (goodIn_r _ [11, 12, 1, 13, 14, 15, 4, 16, 17, 18, 19, 20, 21, 22, 23, 24, 25, 26, 27, 28, 29, 30, 31, 32, 33, 34, 35, 36, 37, 38, 39, 40, 41, 42, 43, 44, 45] (by decide +kernel) (by decide +kernel)) (goodIn_sub (fun _ h => List.mem_cons_of_mem _ (List.mem_append_right _ h)) (by decide +kernel))
set_option maxRecDepth 20000 in
theorem gX0_iterate_X0_carryOutRound : GoodIn wsX0_iterate (wsV RX0 92 RX0 yX0_carryOutRound wsX0_carryOutRound) := goodIn_app (goodIn_of _ (by decide +kernel)) ggX0_iterate_X0_carryOutRound
theorem dX0_iterate_0 : decode cX0_iterate 0 = .ok (.iload_n 1, 1) := by decide +kernel
theorem dX0_iterate_1 : decode cX0_iterate 1 = .ok (.iconst 1, 1) := by decide +kernel
theorem dX0_iterate_2 : decode cX0_iterate 2 = .ok (.bipush 50, 2) := by decide +kernel
theorem dX0_iterate_4 : decode cX0_iterate 4 = .ok (.invokestatic 42, 3) := by decide +kernel
theorem dX0_iterate_7 : decode cX0_iterate 7 = .ok (.iconst 0, 1) := by decide +kernel
theorem dX0_iterate_8 : decode cX0_iterate 8 = .ok (.istore_n 2, 1) := by decide +kernel
theorem dX0_iterate_9 : decode cX0_iterate 9 = .ok (.iload_n 2, 1) := by decide +kernel
theorem dX0_iterate_10 : decode cX0_iterate 10 = .ok (.iload_n 1, 1) := by decide +kernel
theorem dX0_iterate_11 : decode cX0_iterate 11 = .ok (.if_icmp .ge 13, 3) := by decide +kernel
theorem dX0_iterate_14 : decode cX0_iterate 14 = .ok (.aload_n 0, 1) := by decide +kernel
theorem dX0_iterate_15 : decode cX0_iterate 15 = .ok (.invokevirtual 92, 3) := by decide +kernel
theorem dX0_iterate_18 : decode cX0_iterate 18 = .ok (.iinc 2 1, 3) := by decide +kernel
theorem dX0_iterate_21 : decode cX0_iterate 21 = .ok (.goto (-12), 3) := by decide +kernel
theorem dX0_iterate_24 : decode cX0_iterate 24 = .ok (.aload_n 0, 1) := by decide +kernel
theorem dX0_iterate_25 : decode cX0_iterate 25 = .ok (.getfield 95, 3) := by decide +kernel
theorem dX0_iterate_28 : decode cX0_iterate 28 = .ok (.ireturn, 1) := by decide +kernel
set_option maxRecDepth 20000 in
theorem ggX0_fit_X0_requireWithin : GoodIn wsX0_fit wsX0_requireWithin := goodIn_ca (goodIn_r _ [6, 7, 8] (by decide +kernel) (by decide +kernel)) (goodIn_sub (fun _ h => List.mem_cons_of_mem _ (List.mem_append_left _ (List.mem_append_right _ h))) (by decide +kernel))
set_option maxRecDepth 20000 in
theorem gX0_fit_X0_requireWithin : GoodIn wsX0_fit (va_wsS RX0 42 yX0_requireWithin wsX0_requireWithin) := goodIn_app (goodIn_of _ (by decide +kernel)) ggX0_fit_X0_requireWithin
set_option maxRecDepth 20000 in
theorem ggX0_fit_X0_misfit : GoodIn wsX0_fit wsX0_misfit := goodIn_ca (goodIn_r _ [12, 13, 14, 15, 16, 17, 18, 5, 19, 20, 21, 22, 23, 24, 25, 26, 27, 28, 29, 30, 44, 45, 46, 47, 48, 49, 50, 51, 52, 53, 54] (by decide +kernel) (by decide +kernel)) (goodIn_sub (fun _ h => List.mem_cons_of_mem _ (List.mem_append_right _ h)) (by decide +kernel))
set_option maxRecDepth 20000 in
theorem gX0_fit_X0_misfit : GoodIn wsX0_fit (wsV RX0 101 RX0 yX0_misfit wsX0_misfit) := goodIn_app (goodIn_of _ (by decide +kernel)) ggX0_fit_X0_misfit
set_option maxRecDepth 20000 in
theorem ggX0_fit_X0_carryOutRound : GoodIn wsX0_fit wsX0_carryOutRound := goodIn_ca (goodIn_r _ [34, 13, 35, 36, 37, 38, 5, 39, 14, 20, 16, 17, 18, 19, 21, 22, 23, 40, 41, 42, 43, 15, 27, 28, 29, 30, 44, 45, 46, 47, 48, 49, 50, 51, 52, 53, 54] (by decide +kernel) (by decide +kernel)) (goodIn_sub (fun _ h => List.mem_cons_of_mem _ (List.mem_append_right _ h)) (by decide +kernel))
set_option maxRecDepth 20000 in
theorem gX0_fit_X0_carryOutRound : GoodIn wsX0_fit (wsV RX0 92 RX0 yX0_carryOutRound wsX0_carryOutRound) := goodIn_app (goodIn_of _ (by decide +kernel)) ggX0_fit_X0_carryOutRound
theorem dX0_fit_0 : decode cX0_fit 0 = .ok (.iload_n 1, 1) := by decide +kernel
theorem dX0_fit_1 : decode cX0_fit 1 = .ok (.iconst 0, 1) := by decide +kernel
theorem dX0_fit_2 : decode cX0_fit 2 = .ok (.ldc 98, 2) := by decide +kernel
theorem dX0_fit_4 : decode cX0_fit 4 = .ok (.invokestatic 42, 3) := by decide +kernel
theorem dX0_fit_7 : decode cX0_fit 7 = .ok (.iload_n 2, 1) := by decide +kernel
theorem dX0_fit_8 : decode cX0_fit 8 = .ok (.iconst 1, 1) := by decide +kernel
theorem dX0_fit_9 : decode cX0_fit 9 = .ok (.bipush 100, 2) := by decide +kernel
theorem dX0_fit_11 : decode cX0_fit 11 = .ok (.invokestatic 42, 3) := by decide +kernel
theorem dX0_fit_14 : decode cX0_fit 14 = .ok (.iload_n 1, 1) := by decide +kernel
theorem dX0_fit_15 : decode cX0_fit 15 = .ok (.i2d, 1) := by decide +kernel
theorem dX0_fit_16 : decode cX0_fit 16 = .ok (.ldc2_w 99, 3) := by decide +kernel
theorem dX0_fit_19 : decode cX0_fit 19 = .ok (.ddiv, 1) := by decide +kernel
theorem dX0_fit_20 : decode cX0_fit 20 = .ok (.dstore_n 3, 1) := by decide +kernel
theorem dX0_fit_21 : decode cX0_fit 21 = .ok (.iconst 0, 1) := by decide +kernel
theorem dX0_fit_22 : decode cX0_fit 22 = .ok (.istore 5, 2) := by decide +kernel
theorem dX0_fit_24 : decode cX0_fit 24 = .ok (.iload 5, 2) := by decide +kernel
theorem dX0_fit_26 : decode cX0_fit 26 = .ok (.iload_n 2, 1) := by decide +kernel
theorem dX0_fit_27 : decode cX0_fit 27 = .ok (.if_icmp .ge 22, 3) := by decide +kernel
theorem dX0_fit_30 : decode cX0_fit 30 = .ok (.aload_n 0, 1) := by decide +kernel
theorem dX0_fit_31 : decode cX0_fit 31 = .ok (.invokevirtual 101, 3) := by decide +kernel
theorem dX0_fit_34 : decode cX0_fit 34 = .ok (.dload_n 3, 1) := by decide +kernel
theorem dX0_fit_35 : decode cX0_fit 35 = .ok (.dcmp .l, 1) := by decide +kernel
theorem dX0_fit_36 : decode cX0_fit 36 = .ok (.ifCond .le 13, 3) := by decide +kernel
theorem dX0_fit_39 : decode cX0_fit 39 = .ok (.aload_n 0, 1) := by decide +kernel
theorem dX0_fit_40 : decode cX0_fit 40 = .ok (.invokevirtual 92, 3) := by decide +kernel
theorem dX0_fit_43 : decode cX0_fit 43 = .ok (.iinc 5 1, 3) := by decide +kernel
theorem dX0_fit_46 : decode cX0_fit 46 = .ok (.goto (-22), 3) := by decide +kernel
theorem dX0_fit_49 : decode cX0_fit 49 = .ok (.iload 5, 2) := by decide +kernel
theorem dX0_fit_51 : decode cX0_fit 51 = .ok (.ireturn, 1) := by decide +kernel
set_option maxRecDepth 20000 in
theorem ggX0_reset_X0_resetEstimate : GoodIn wsX0_reset wsX0_resetEstimate := goodIn_ca (goodIn_r _ [6, 7, 8, 9, 1, 10, 11, 5, 12, 13, 14, 15, 16, 17, 18, 19, 20, 21, 22, 23] (by decide +kernel) (by decide +kernel)) (goodIn_sub (fun _ h => List.mem_cons_of_mem _ (List.mem_append_right _ h)) (by decide +kernel))
set_option maxRecDepth 20000 in
theorem gX0_reset_X0_resetEstimate : GoodIn wsX0_reset (wsV RX0 64 RX0 yX0_resetEstimate wsX0_resetEstimate) := goodIn_app (goodIn_of _ (by decide +kernel)) ggX0_reset_X0_resetEstimate
theorem dX0_reset_0 : decode cX0_reset 0 = .ok (.aload_n 0, 1) := by decide +kernel
theorem dX0_reset_1 : decode cX0_reset 1 = .ok (.getfield 95, 3) := by decide +kernel
theorem dX0_reset_4 : decode cX0_reset 4 = .ok (.istore_n 1, 1) := by decide +kernel
theorem dX0_reset_5 : decode cX0_reset 5 = .ok (.aload_n 0, 1) := by decide +kernel
theorem dX0_reset_6 : decode cX0_reset 6 = .ok (.invokevirtual 64, 3) := by decide +kernel
theorem dX0_reset_9 : decode cX0_reset 9 = .ok (.iload_n 1, 1) := by decide +kernel
theorem dX0_reset_10 : decode cX0_reset 10 = .ok (.ireturn, 1) := by decide +kernel
theorem dX0_rounds_0 : decode cX0_rounds 0 = .ok (.aload_n 0, 1) := by decide +kernel
theorem dX0_rounds_1 : decode cX0_rounds 1 = .ok (.getfield 95, 3) := by decide +kernel
theorem dX0_rounds_4 : decode cX0_rounds 4 = .ok (.ireturn, 1) := by decide +kernel
set_option maxRecDepth 20000 in
theorem ggX0_estimate_X0_requireArm : GoodIn wsX0_estimate wsX0_requireArm := goodIn_ca (goodIn_r _ [6, 7, 8, 9, 13, 14, 15, 16, 17, 18, 19, 20, 21, 22, 23] (by decide +kernel) (by decide +kernel)) (goodIn_sub (fun _ h => List.mem_cons_of_mem _ (List.mem_append_right _ h)) (by decide +kernel))
set_option maxRecDepth 20000 in
theorem gX0_estimate_X0_requireArm : GoodIn wsX0_estimate (wsV RX0 54 RX0 yX0_requireArm wsX0_requireArm) := goodIn_app (goodIn_of _ (by decide +kernel)) ggX0_estimate_X0_requireArm
set_option maxRecDepth 20000 in
theorem ggX0_estimate_X0_turn : GoodIn wsX0_estimate wsX0_turn := goodIn_r _ [12] (by decide +kernel) (by decide +kernel)
set_option maxRecDepth 20000 in
theorem gX0_estimate_X0_turn : GoodIn wsX0_estimate (va_wsS RX0 57 yX0_turn wsX0_turn) := goodIn_app (goodIn_of _ (by decide +kernel)) ggX0_estimate_X0_turn
theorem dX0_estimate_0 : decode cX0_estimate 0 = .ok (.aload_n 0, 1) := by decide +kernel
theorem dX0_estimate_1 : decode cX0_estimate 1 = .ok (.iload_n 1, 1) := by decide +kernel
theorem dX0_estimate_2 : decode cX0_estimate 2 = .ok (.invokevirtual 54, 3) := by decide +kernel
theorem dX0_estimate_5 : decode cX0_estimate 5 = .ok (.aload_n 0, 1) := by decide +kernel
theorem dX0_estimate_6 : decode cX0_estimate 6 = .ok (.iload_n 2, 1) := by decide +kernel
theorem dX0_estimate_7 : decode cX0_estimate 7 = .ok (.invokevirtual 54, 3) := by decide +kernel
theorem dX0_estimate_10 : decode cX0_estimate 10 = .ok (.aload_n 0, 1) := by decide +kernel
theorem dX0_estimate_11 : decode cX0_estimate 11 = .ok (.getfield 19, 3) := by decide +kernel
theorem dX0_estimate_14 : decode cX0_estimate 14 = .ok (.iload_n 1, 1) := by decide +kernel
theorem dX0_estimate_15 : decode cX0_estimate 15 = .ok (.iload_n 2, 1) := by decide +kernel
theorem dX0_estimate_16 : decode cX0_estimate 16 = .ok (.invokestatic 57, 3) := by decide +kernel
theorem dX0_estimate_19 : decode cX0_estimate 19 = .ok (.daload, 1) := by decide +kernel
theorem dX0_estimate_20 : decode cX0_estimate 20 = .ok (.dreturn, 1) := by decide +kernel
set_option maxRecDepth 20000 in
theorem ggX0_sum_X0_requireArm : GoodIn wsX0_sum wsX0_requireArm := goodIn_ca (goodIn_r _ [5, 6, 7, 8, 21, 22, 23, 24, 25, 26, 27, 28, 29, 30, 31] (by decide +kernel) (by decide +kernel)) (goodIn_sub (fun _ h => List.mem_cons_of_mem _ (List.mem_append_left _ (List.mem_append_right _ h))) (by decide +kernel))
set_option maxRecDepth 20000 in
theorem gX0_sum_X0_requireArm : GoodIn wsX0_sum (wsV RX0 54 RX0 yX0_requireArm wsX0_requireArm) := goodIn_app (goodIn_of _ (by decide +kernel)) ggX0_sum_X0_requireArm
set_option maxRecDepth 20000 in
theorem ggX0_sum_X0_columnSum : GoodIn wsX0_sum wsX0_columnSum := goodIn_ca (goodIn_r _ [12, 8, 13, 14, 15, 4, 16, 21, 22, 23, 24, 25, 26, 27, 28, 29, 30, 31] (by decide +kernel) (by decide +kernel)) (goodIn_sub (fun _ h => List.mem_cons_of_mem _ (List.mem_append_right _ h)) (by decide +kernel))
set_option maxRecDepth 20000 in
theorem gX0_sum_X0_columnSum : GoodIn wsX0_sum (wsV RX0 105 RX0 yX0_columnSum wsX0_columnSum) := goodIn_app (goodIn_of _ (by decide +kernel)) ggX0_sum_X0_columnSum
set_option maxRecDepth 20000 in
theorem ggX0_sum_X0_rowSum : GoodIn wsX0_sum wsX0_rowSum := goodIn_ca (goodIn_r _ [20, 8, 13, 14, 15, 4, 16, 21, 22, 23, 24, 25, 26, 27, 28, 29, 30, 31] (by decide +kernel) (by decide +kernel)) (goodIn_sub (fun _ h => List.mem_cons_of_mem _ (List.mem_append_right _ h)) (by decide +kernel))
set_option maxRecDepth 20000 in
theorem gX0_sum_X0_rowSum : GoodIn wsX0_sum (wsV RX0 109 RX0 yX0_rowSum wsX0_rowSum) := goodIn_app (goodIn_of _ (by decide +kernel)) ggX0_sum_X0_rowSum
theorem dX0_sum_0 : decode cX0_sum 0 = .ok (.aload_n 0, 1) := by decide +kernel
theorem dX0_sum_1 : decode cX0_sum 1 = .ok (.iload_n 1, 1) := by decide +kernel
theorem dX0_sum_2 : decode cX0_sum 2 = .ok (.invokevirtual 54, 3) := by decide +kernel
theorem dX0_sum_5 : decode cX0_sum 5 = .ok (.iload_n 2, 1) := by decide +kernel
theorem dX0_sum_6 : decode cX0_sum 6 = .ok (.ifCond .eq 11, 3) := by decide +kernel
theorem dX0_sum_9 : decode cX0_sum 9 = .ok (.aload_n 0, 1) := by decide +kernel
theorem dX0_sum_10 : decode cX0_sum 10 = .ok (.iload_n 1, 1) := by decide +kernel
theorem dX0_sum_11 : decode cX0_sum 11 = .ok (.invokevirtual 105, 3) := by decide +kernel
theorem dX0_sum_14 : decode cX0_sum 14 = .ok (.goto 8, 3) := by decide +kernel
theorem dX0_sum_17 : decode cX0_sum 17 = .ok (.aload_n 0, 1) := by decide +kernel
theorem dX0_sum_18 : decode cX0_sum 18 = .ok (.iload_n 1, 1) := by decide +kernel
theorem dX0_sum_19 : decode cX0_sum 19 = .ok (.invokevirtual 109, 3) := by decide +kernel
theorem dX0_sum_22 : decode cX0_sum 22 = .ok (.dreturn, 1) := by decide +kernel
set_option maxRecDepth 20000 in
theorem ggX0_misfit_X0_rowSum : GoodIn wsX0_misfit wsX0_rowSum := goodIn_ca (goodIn_r _ [8, 1, 9, 10, 11, 7, 12, 20, 21, 22, 23, 24, 25, 26, 27, 28, 29, 30] (by decide +kernel) (by decide +kernel)) (goodIn_sub (fun _ h => List.mem_cons_of_mem _ (List.mem_append_right _ h)) (by decide +kernel))
set_option maxRecDepth 20000 in
theorem gX0_misfit_X0_rowSum : GoodIn wsX0_misfit (wsV RX0 109 RX0 yX0_rowSum wsX0_rowSum) := goodIn_app (goodIn_of _ (by decide +kernel)) ggX0_misfit_X0_rowSum
set_option maxRecDepth 20000 in
theorem ggX0_misfit_X0_distance : GoodIn wsX0_misfit wsX0_distance := goodIn_r _ [15] (by decide +kernel) (by decide +kernel)
set_option maxRecDepth 20000 in
theorem gX0_misfit_X0_distance : GoodIn wsX0_misfit (va_wsS RX0 112 yX0_distance wsX0_distance) := goodIn_app (goodIn_of _ (by decide +kernel)) ggX0_misfit_X0_distance
set_option maxRecDepth 20000 in
theorem ggX0_misfit_X0_columnSum : GoodIn wsX0_misfit wsX0_columnSum := goodIn_ca (goodIn_r _ [19, 1, 9, 10, 11, 7, 12, 20, 21, 22, 23, 24, 25, 26, 27, 28, 29, 30] (by decide +kernel) (by decide +kernel)) (goodIn_sub (fun _ h => List.mem_cons_of_mem _ (List.mem_append_right _ h)) (by decide +kernel))
set_option maxRecDepth 20000 in
theorem gX0_misfit_X0_columnSum : GoodIn wsX0_misfit (wsV RX0 105 RX0 yX0_columnSum wsX0_columnSum) := goodIn_app (goodIn_of _ (by decide +kernel)) ggX0_misfit_X0_columnSum
theorem dX0_misfit_0 : decode cX0_misfit 0 = .ok (.dconst 0, 1) := by decide +kernel
theorem dX0_misfit_1 : decode cX0_misfit 1 = .ok (.dstore_n 1, 1) := by decide +kernel
theorem dX0_misfit_2 : decode cX0_misfit 2 = .ok (.iconst 0, 1) := by decide +kernel
theorem dX0_misfit_3 : decode cX0_misfit 3 = .ok (.istore_n 3, 1) := by decide +kernel
theorem dX0_misfit_4 : decode cX0_misfit 4 = .ok (.iload_n 3, 1) := by decide +kernel
theorem dX0_misfit_5 : decode cX0_misfit 5 = .ok (.aload_n 0, 1) := by decide +kernel
theorem dX0_misfit_6 : decode cX0_misfit 6 = .ok (.getfield 46, 3) := by decide +kernel
theorem dX0_misfit_9 : decode cX0_misfit 9 = .ok (.if_icmp .ge 71, 3) := by decide +kernel
theorem dX0_misfit_12 : decode cX0_misfit 12 = .ok (.aload_n 0, 1) := by decide +kernel
theorem dX0_misfit_13 : decode cX0_misfit 13 = .ok (.iload_n 3, 1) := by decide +kernel
theorem dX0_misfit_14 : decode cX0_misfit 14 = .ok (.invokevirtual 109, 3) := by decide +kernel
theorem dX0_misfit_17 : decode cX0_misfit 17 = .ok (.aload_n 0, 1) := by decide +kernel
theorem dX0_misfit_18 : decode cX0_misfit 18 = .ok (.getfield 9, 3) := by decide +kernel
theorem dX0_misfit_21 : decode cX0_misfit 21 = .ok (.iload_n 3, 1) := by decide +kernel
theorem dX0_misfit_22 : decode cX0_misfit 22 = .ok (.iaload, 1) := by decide +kernel
theorem dX0_misfit_23 : decode cX0_misfit 23 = .ok (.i2d, 1) := by decide +kernel
theorem dX0_misfit_24 : decode cX0_misfit 24 = .ok (.invokestatic 112, 3) := by decide +kernel
theorem dX0_misfit_27 : decode cX0_misfit 27 = .ok (.dstore 4, 2) := by decide +kernel
theorem dX0_misfit_29 : decode cX0_misfit 29 = .ok (.aload_n 0, 1) := by decide +kernel
theorem dX0_misfit_30 : decode cX0_misfit 30 = .ok (.iload_n 3, 1) := by decide +kernel
theorem dX0_misfit_31 : decode cX0_misfit 31 = .ok (.invokevirtual 105, 3) := by decide +kernel
theorem dX0_misfit_34 : decode cX0_misfit 34 = .ok (.aload_n 0, 1) := by decide +kernel
theorem dX0_misfit_35 : decode cX0_misfit 35 = .ok (.getfield 13, 3) := by decide +kernel
theorem dX0_misfit_38 : decode cX0_misfit 38 = .ok (.iload_n 3, 1) := by decide +kernel
theorem dX0_misfit_39 : decode cX0_misfit 39 = .ok (.iaload, 1) := by decide +kernel
theorem dX0_misfit_40 : decode cX0_misfit 40 = .ok (.i2d, 1) := by decide +kernel
theorem dX0_misfit_41 : decode cX0_misfit 41 = .ok (.invokestatic 112, 3) := by decide +kernel
theorem dX0_misfit_44 : decode cX0_misfit 44 = .ok (.dstore 6, 2) := by decide +kernel
theorem dX0_misfit_46 : decode cX0_misfit 46 = .ok (.dload 4, 2) := by decide +kernel
theorem dX0_misfit_48 : decode cX0_misfit 48 = .ok (.dload_n 1, 1) := by decide +kernel
theorem dX0_misfit_49 : decode cX0_misfit 49 = .ok (.dcmp .l, 1) := by decide +kernel
theorem dX0_misfit_50 : decode cX0_misfit 50 = .ok (.ifCond .le 8, 3) := by decide +kernel
theorem dX0_misfit_53 : decode cX0_misfit 53 = .ok (.dload 4, 2) := by decide +kernel
theorem dX0_misfit_55 : decode cX0_misfit 55 = .ok (.goto 4, 3) := by decide +kernel
theorem dX0_misfit_58 : decode cX0_misfit 58 = .ok (.dload_n 1, 1) := by decide +kernel
theorem dX0_misfit_59 : decode cX0_misfit 59 = .ok (.dstore_n 1, 1) := by decide +kernel
theorem dX0_misfit_60 : decode cX0_misfit 60 = .ok (.dload 6, 2) := by decide +kernel
theorem dX0_misfit_62 : decode cX0_misfit 62 = .ok (.dload_n 1, 1) := by decide +kernel
theorem dX0_misfit_63 : decode cX0_misfit 63 = .ok (.dcmp .l, 1) := by decide +kernel
theorem dX0_misfit_64 : decode cX0_misfit 64 = .ok (.ifCond .le 8, 3) := by decide +kernel
theorem dX0_misfit_67 : decode cX0_misfit 67 = .ok (.dload 6, 2) := by decide +kernel
theorem dX0_misfit_69 : decode cX0_misfit 69 = .ok (.goto 4, 3) := by decide +kernel
theorem dX0_misfit_72 : decode cX0_misfit 72 = .ok (.dload_n 1, 1) := by decide +kernel
theorem dX0_misfit_73 : decode cX0_misfit 73 = .ok (.dstore_n 1, 1) := by decide +kernel
theorem dX0_misfit_74 : decode cX0_misfit 74 = .ok (.iinc 3 1, 3) := by decide +kernel
theorem dX0_misfit_77 : decode cX0_misfit 77 = .ok (.goto (-73), 3) := by decide +kernel
theorem dX0_misfit_80 : decode cX0_misfit 80 = .ok (.dload_n 1, 1) := by decide +kernel
theorem dX0_misfit_81 : decode cX0_misfit 81 = .ok (.dreturn, 1) := by decide +kernel
set_option maxRecDepth 20000 in
theorem ggX0_share_X0_requireArm : GoodIn wsX0_share wsX0_requireArm := goodIn_ca (goodIn_r _ [6, 7, 8, 9, 17, 18, 19, 20, 21, 22, 23, 24, 25, 26, 27] (by decide +kernel) (by decide +kernel)) (goodIn_sub (fun _ h => List.mem_cons_of_mem _ (List.mem_append_right _ h)) (by decide +kernel))
set_option maxRecDepth 20000 in
theorem gX0_share_X0_requireArm : GoodIn wsX0_share (wsV RX0 54 RX0 yX0_requireArm wsX0_requireArm) := goodIn_app (goodIn_of _ (by decide +kernel)) ggX0_share_X0_requireArm
set_option maxRecDepth 20000 in
theorem ggX0_share_X0_rowSum : GoodIn wsX0_share wsX0_rowSum := goodIn_ca (goodIn_r _ [13, 9, 1, 14, 15, 5, 16, 17, 18, 19, 20, 21, 22, 23, 24, 25, 26, 27] (by decide +kernel) (by decide +kernel)) (goodIn_sub (fun _ h => List.mem_cons_of_mem _ (List.mem_append_left _ (List.mem_append_right _ h))) (by decide +kernel))
set_option maxRecDepth 20000 in
theorem gX0_share_X0_rowSum : GoodIn wsX0_share (wsV RX0 109 RX0 yX0_rowSum wsX0_rowSum) := goodIn_app (goodIn_of _ (by decide +kernel)) ggX0_share_X0_rowSum
set_option maxRecDepth 20000 in
theorem ggX0_share_X0_turn : GoodIn wsX0_share wsX0_turn := goodIn_r _ [16] (by decide +kernel) (by decide +kernel)
set_option maxRecDepth 20000 in
theorem gX0_share_X0_turn : GoodIn wsX0_share (va_wsS RX0 57 yX0_turn wsX0_turn) := goodIn_app (goodIn_of _ (by decide +kernel)) ggX0_share_X0_turn
theorem dX0_share_0 : decode cX0_share 0 = .ok (.aload_n 0, 1) := by decide +kernel
theorem dX0_share_1 : decode cX0_share 1 = .ok (.iload_n 1, 1) := by decide +kernel
theorem dX0_share_2 : decode cX0_share 2 = .ok (.invokevirtual 54, 3) := by decide +kernel
theorem dX0_share_5 : decode cX0_share 5 = .ok (.aload_n 0, 1) := by decide +kernel
theorem dX0_share_6 : decode cX0_share 6 = .ok (.iload_n 2, 1) := by decide +kernel
theorem dX0_share_7 : decode cX0_share 7 = .ok (.invokevirtual 54, 3) := by decide +kernel
theorem dX0_share_10 : decode cX0_share 10 = .ok (.aload_n 0, 1) := by decide +kernel
theorem dX0_share_11 : decode cX0_share 11 = .ok (.iload_n 1, 1) := by decide +kernel
theorem dX0_share_12 : decode cX0_share 12 = .ok (.invokevirtual 109, 3) := by decide +kernel
theorem dX0_share_15 : decode cX0_share 15 = .ok (.dstore_n 3, 1) := by decide +kernel
theorem dX0_share_16 : decode cX0_share 16 = .ok (.dload_n 3, 1) := by decide +kernel
theorem dX0_share_17 : decode cX0_share 17 = .ok (.dconst 0, 1) := by decide +kernel
theorem dX0_share_18 : decode cX0_share 18 = .ok (.dcmp .l, 1) := by decide +kernel
theorem dX0_share_19 : decode cX0_share 19 = .ok (.ifCond .le 18, 3) := by decide +kernel
theorem dX0_share_22 : decode cX0_share 22 = .ok (.aload_n 0, 1) := by decide +kernel
theorem dX0_share_23 : decode cX0_share 23 = .ok (.getfield 19, 3) := by decide +kernel
theorem dX0_share_26 : decode cX0_share 26 = .ok (.iload_n 1, 1) := by decide +kernel
theorem dX0_share_27 : decode cX0_share 27 = .ok (.iload_n 2, 1) := by decide +kernel
theorem dX0_share_28 : decode cX0_share 28 = .ok (.invokestatic 57, 3) := by decide +kernel
theorem dX0_share_31 : decode cX0_share 31 = .ok (.daload, 1) := by decide +kernel
theorem dX0_share_32 : decode cX0_share 32 = .ok (.dload_n 3, 1) := by decide +kernel
theorem dX0_share_33 : decode cX0_share 33 = .ok (.ddiv, 1) := by decide +kernel
theorem dX0_share_34 : decode cX0_share 34 = .ok (.goto 4, 3) := by decide +kernel
theorem dX0_share_37 : decode cX0_share 37 = .ok (.dconst 0, 1) := by decide +kernel
theorem dX0_share_38 : decode cX0_share 38 = .ok (.dreturn, 1) := by decide +kernel
set_option maxRecDepth 20000 in
theorem ggX0_crossRatio_X0_requireArm : GoodIn wsX0_crossRatio wsX0_requireArm := goodIn_ca (goodIn_r _ [8, 9, 10, 11, 15, 16, 17, 18, 19, 20, 21, 22, 23, 24, 25] (by decide +kernel) (by decide +kernel)) (goodIn_sub (fun _ h => List.mem_cons_of_mem _ (List.mem_append_right _ h)) (by decide +kernel))
set_option maxRecDepth 20000 in
theorem gX0_crossRatio_X0_requireArm : GoodIn wsX0_crossRatio (wsV RX0 54 RX0 yX0_requireArm wsX0_requireArm) := goodIn_app (goodIn_of _ (by decide +kernel)) ggX0_crossRatio_X0_requireArm
set_option maxRecDepth 20000 in
theorem ggX0_crossRatio_X0_turn : GoodIn wsX0_crossRatio wsX0_turn := goodIn_r _ [14] (by decide +kernel) (by decide +kernel)
set_option maxRecDepth 20000 in
theorem gX0_crossRatio_X0_turn : GoodIn wsX0_crossRatio (va_wsS RX0 57 yX0_turn wsX0_turn) := goodIn_app (goodIn_of _ (by decide +kernel)) ggX0_crossRatio_X0_turn
theorem dX0_crossRatio_0 : decode cX0_crossRatio 0 = .ok (.aload_n 0, 1) := by decide +kernel
theorem dX0_crossRatio_1 : decode cX0_crossRatio 1 = .ok (.iload_n 1, 1) := by decide +kernel
theorem dX0_crossRatio_2 : decode cX0_crossRatio 2 = .ok (.invokevirtual 54, 3) := by decide +kernel
theorem dX0_crossRatio_5 : decode cX0_crossRatio 5 = .ok (.aload_n 0, 1) := by decide +kernel
theorem dX0_crossRatio_6 : decode cX0_crossRatio 6 = .ok (.iload_n 2, 1) := by decide +kernel
theorem dX0_crossRatio_7 : decode cX0_crossRatio 7 = .ok (.invokevirtual 54, 3) := by decide +kernel
theorem dX0_crossRatio_10 : decode cX0_crossRatio 10 = .ok (.aload_n 0, 1) := by decide +kernel
theorem dX0_crossRatio_11 : decode cX0_crossRatio 11 = .ok (.iload_n 3, 1) := by decide +kernel
theorem dX0_crossRatio_12 : decode cX0_crossRatio 12 = .ok (.invokevirtual 54, 3) := by decide +kernel
theorem dX0_crossRatio_15 : decode cX0_crossRatio 15 = .ok (.aload_n 0, 1) := by decide +kernel
theorem dX0_crossRatio_16 : decode cX0_crossRatio 16 = .ok (.iload 4, 2) := by decide +kernel
theorem dX0_crossRatio_18 : decode cX0_crossRatio 18 = .ok (.invokevirtual 54, 3) := by decide +kernel
theorem dX0_crossRatio_21 : decode cX0_crossRatio 21 = .ok (.aload_n 0, 1) := by decide +kernel
theorem dX0_crossRatio_22 : decode cX0_crossRatio 22 = .ok (.getfield 19, 3) := by decide +kernel
theorem dX0_crossRatio_25 : decode cX0_crossRatio 25 = .ok (.iload_n 1, 1) := by decide +kernel
theorem dX0_crossRatio_26 : decode cX0_crossRatio 26 = .ok (.iload_n 3, 1) := by decide +kernel
theorem dX0_crossRatio_27 : decode cX0_crossRatio 27 = .ok (.invokestatic 57, 3) := by decide +kernel
theorem dX0_crossRatio_30 : decode cX0_crossRatio 30 = .ok (.daload, 1) := by decide +kernel
theorem dX0_crossRatio_31 : decode cX0_crossRatio 31 = .ok (.aload_n 0, 1) := by decide +kernel
theorem dX0_crossRatio_32 : decode cX0_crossRatio 32 = .ok (.getfield 19, 3) := by decide +kernel
theorem dX0_crossRatio_35 : decode cX0_crossRatio 35 = .ok (.iload_n 2, 1) := by decide +kernel
theorem dX0_crossRatio_36 : decode cX0_crossRatio 36 = .ok (.iload 4, 2) := by decide +kernel
theorem dX0_crossRatio_38 : decode cX0_crossRatio 38 = .ok (.invokestatic 57, 3) := by decide +kernel
theorem dX0_crossRatio_41 : decode cX0_crossRatio 41 = .ok (.daload, 1) := by decide +kernel
theorem dX0_crossRatio_42 : decode cX0_crossRatio 42 = .ok (.dmul, 1) := by decide +kernel
theorem dX0_crossRatio_43 : decode cX0_crossRatio 43 = .ok (.dstore 5, 2) := by decide +kernel
theorem dX0_crossRatio_45 : decode cX0_crossRatio 45 = .ok (.aload_n 0, 1) := by decide +kernel
theorem dX0_crossRatio_46 : decode cX0_crossRatio 46 = .ok (.getfield 19, 3) := by decide +kernel
theorem dX0_crossRatio_49 : decode cX0_crossRatio 49 = .ok (.iload_n 1, 1) := by decide +kernel
theorem dX0_crossRatio_50 : decode cX0_crossRatio 50 = .ok (.iload 4, 2) := by decide +kernel
theorem dX0_crossRatio_52 : decode cX0_crossRatio 52 = .ok (.invokestatic 57, 3) := by decide +kernel
theorem dX0_crossRatio_55 : decode cX0_crossRatio 55 = .ok (.daload, 1) := by decide +kernel
theorem dX0_crossRatio_56 : decode cX0_crossRatio 56 = .ok (.aload_n 0, 1) := by decide +kernel
theorem dX0_crossRatio_57 : decode cX0_crossRatio 57 = .ok (.getfield 19, 3) := by decide +kernel
theorem dX0_crossRatio_60 : decode cX0_crossRatio 60 = .ok (.iload_n 2, 1) := by decide +kernel
theorem dX0_crossRatio_61 : decode cX0_crossRatio 61 = .ok (.iload_n 3, 1) := by decide +kernel
theorem dX0_crossRatio_62 : decode cX0_crossRatio 62 = .ok (.invokestatic 57, 3) := by decide +kernel
theorem dX0_crossRatio_65 : decode cX0_crossRatio 65 = .ok (.daload, 1) := by decide +kernel
theorem dX0_crossRatio_66 : decode cX0_crossRatio 66 = .ok (.dmul, 1) := by decide +kernel
theorem dX0_crossRatio_67 : decode cX0_crossRatio 67 = .ok (.dstore 7, 2) := by decide +kernel
theorem dX0_crossRatio_69 : decode cX0_crossRatio 69 = .ok (.dload 7, 2) := by decide +kernel
theorem dX0_crossRatio_71 : decode cX0_crossRatio 71 = .ok (.dconst 0, 1) := by decide +kernel
theorem dX0_crossRatio_72 : decode cX0_crossRatio 72 = .ok (.dcmp .l, 1) := by decide +kernel
theorem dX0_crossRatio_73 : decode cX0_crossRatio 73 = .ok (.ifCond .gt 13, 3) := by decide +kernel
theorem dX0_crossRatio_76 : decode cX0_crossRatio 76 = .ok (.new 116, 3) := by decide +kernel
theorem dX0_crossRatio_79 : decode cX0_crossRatio 79 = .ok (.dup, 1) := by decide +kernel
theorem dX0_crossRatio_80 : decode cX0_crossRatio 80 = .ok (.ldc 118, 2) := by decide +kernel
theorem dX0_crossRatio_82 : decode cX0_crossRatio 82 = .ok (.invokespecial 120, 3) := by decide +kernel
theorem dX0_crossRatio_85 : decode cX0_crossRatio 85 = .ok (.athrow, 1) := by decide +kernel
theorem dX0_crossRatio_86 : decode cX0_crossRatio 86 = .ok (.dload 5, 2) := by decide +kernel
theorem dX0_crossRatio_88 : decode cX0_crossRatio 88 = .ok (.dload 7, 2) := by decide +kernel
theorem dX0_crossRatio_90 : decode cX0_crossRatio 90 = .ok (.ddiv, 1) := by decide +kernel
theorem dX0_crossRatio_91 : decode cX0_crossRatio 91 = .ok (.dreturn, 1) := by decide +kernel
set_option maxRecDepth 20000 in
theorem ggX0_busiestTurn_X0_turn : GoodIn wsX0_busiestTurn wsX0_turn := goodIn_r _ [6] (by decide +kernel) (by decide +kernel)
set_option maxRecDepth 20000 in
theorem gX0_busiestTurn_X0_turn : GoodIn wsX0_busiestTurn (va_wsS RX0 57 yX0_turn wsX0_turn) := goodIn_app (goodIn_of _ (by decide +kernel)) ggX0_busiestTurn_X0_turn
theorem dX0_busiestTurn_0 : decode cX0_busiestTurn 0 = .ok (.iconst (-1), 1) := by decide +kernel
theorem dX0_busiestTurn_1 : decode cX0_busiestTurn 1 = .ok (.istore_n 1, 1) := by decide +kernel
theorem dX0_busiestTurn_2 : decode cX0_busiestTurn 2 = .ok (.dconst 0, 1) := by decide +kernel
theorem dX0_busiestTurn_3 : decode cX0_busiestTurn 3 = .ok (.dstore_n 2, 1) := by decide +kernel
theorem dX0_busiestTurn_4 : decode cX0_busiestTurn 4 = .ok (.iconst 0, 1) := by decide +kernel
theorem dX0_busiestTurn_5 : decode cX0_busiestTurn 5 = .ok (.istore 4, 2) := by decide +kernel
theorem dX0_busiestTurn_7 : decode cX0_busiestTurn 7 = .ok (.iload 4, 2) := by decide +kernel
theorem dX0_busiestTurn_9 : decode cX0_busiestTurn 9 = .ok (.aload_n 0, 1) := by decide +kernel
theorem dX0_busiestTurn_10 : decode cX0_busiestTurn 10 = .ok (.getfield 46, 3) := by decide +kernel
theorem dX0_busiestTurn_13 : decode cX0_busiestTurn 13 = .ok (.if_icmp .ge 66, 3) := by decide +kernel
theorem dX0_busiestTurn_16 : decode cX0_busiestTurn 16 = .ok (.iconst 0, 1) := by decide +kernel
theorem dX0_busiestTurn_17 : decode cX0_busiestTurn 17 = .ok (.istore 5, 2) := by decide +kernel
theorem dX0_busiestTurn_19 : decode cX0_busiestTurn 19 = .ok (.iload 5, 2) := by decide +kernel
theorem dX0_busiestTurn_21 : decode cX0_busiestTurn 21 = .ok (.aload_n 0, 1) := by decide +kernel
theorem dX0_busiestTurn_22 : decode cX0_busiestTurn 22 = .ok (.getfield 46, 3) := by decide +kernel
theorem dX0_busiestTurn_25 : decode cX0_busiestTurn 25 = .ok (.if_icmp .ge 48, 3) := by decide +kernel
theorem dX0_busiestTurn_28 : decode cX0_busiestTurn 28 = .ok (.aload_n 0, 1) := by decide +kernel
theorem dX0_busiestTurn_29 : decode cX0_busiestTurn 29 = .ok (.getfield 19, 3) := by decide +kernel
theorem dX0_busiestTurn_32 : decode cX0_busiestTurn 32 = .ok (.iload 4, 2) := by decide +kernel
theorem dX0_busiestTurn_34 : decode cX0_busiestTurn 34 = .ok (.iload 5, 2) := by decide +kernel
theorem dX0_busiestTurn_36 : decode cX0_busiestTurn 36 = .ok (.invokestatic 57, 3) := by decide +kernel
theorem dX0_busiestTurn_39 : decode cX0_busiestTurn 39 = .ok (.daload, 1) := by decide +kernel
theorem dX0_busiestTurn_40 : decode cX0_busiestTurn 40 = .ok (.dload_n 2, 1) := by decide +kernel
theorem dX0_busiestTurn_41 : decode cX0_busiestTurn 41 = .ok (.dcmp .l, 1) := by decide +kernel
theorem dX0_busiestTurn_42 : decode cX0_busiestTurn 42 = .ok (.ifCond .le 25, 3) := by decide +kernel
theorem dX0_busiestTurn_45 : decode cX0_busiestTurn 45 = .ok (.aload_n 0, 1) := by decide +kernel
theorem dX0_busiestTurn_46 : decode cX0_busiestTurn 46 = .ok (.getfield 19, 3) := by decide +kernel
theorem dX0_busiestTurn_49 : decode cX0_busiestTurn 49 = .ok (.iload 4, 2) := by decide +kernel
theorem dX0_busiestTurn_51 : decode cX0_busiestTurn 51 = .ok (.iload 5, 2) := by decide +kernel
theorem dX0_busiestTurn_53 : decode cX0_busiestTurn 53 = .ok (.invokestatic 57, 3) := by decide +kernel
theorem dX0_busiestTurn_56 : decode cX0_busiestTurn 56 = .ok (.daload, 1) := by decide +kernel
theorem dX0_busiestTurn_57 : decode cX0_busiestTurn 57 = .ok (.dstore_n 2, 1) := by decide +kernel
theorem dX0_busiestTurn_58 : decode cX0_busiestTurn 58 = .ok (.bipush 10, 2) := by decide +kernel
theorem dX0_busiestTurn_60 : decode cX0_busiestTurn 60 = .ok (.iload 4, 2) := by decide +kernel
theorem dX0_busiestTurn_62 : decode cX0_busiestTurn 62 = .ok (.imul, 1) := by decide +kernel
theorem dX0_busiestTurn_63 : decode cX0_busiestTurn 63 = .ok (.iload 5, 2) := by decide +kernel
theorem dX0_busiestTurn_65 : decode cX0_busiestTurn 65 = .ok (.iadd, 1) := by decide +kernel
theorem dX0_busiestTurn_66 : decode cX0_busiestTurn 66 = .ok (.istore_n 1, 1) := by decide +kernel
theorem dX0_busiestTurn_67 : decode cX0_busiestTurn 67 = .ok (.iinc 5 1, 3) := by decide +kernel
theorem dX0_busiestTurn_70 : decode cX0_busiestTurn 70 = .ok (.goto (-51), 3) := by decide +kernel
theorem dX0_busiestTurn_73 : decode cX0_busiestTurn 73 = .ok (.iinc 4 1, 3) := by decide +kernel
theorem dX0_busiestTurn_76 : decode cX0_busiestTurn 76 = .ok (.goto (-69), 3) := by decide +kernel
theorem dX0_busiestTurn_79 : decode cX0_busiestTurn 79 = .ok (.iload_n 1, 1) := by decide +kernel
theorem dX0_busiestTurn_80 : decode cX0_busiestTurn 80 = .ok (.ireturn, 1) := by decide +kernel
set_option maxRecDepth 20000 in
theorem ggX0_rounded_X0_requireArm : GoodIn wsX0_rounded wsX0_requireArm := goodIn_ca (goodIn_r _ [6, 7, 8, 9, 45, 46, 47, 48, 49, 50, 51, 52, 53, 54, 55] (by decide +kernel) (by decide +kernel)) (goodIn_sub (fun _ h => List.mem_cons_of_mem _ (List.mem_append_right _ h)) (by decide +kernel))
set_option maxRecDepth 20000 in
theorem gX0_rounded_X0_requireArm : GoodIn wsX0_rounded (wsV RX0 54 RX0 yX0_requireArm wsX0_requireArm) := goodIn_app (goodIn_of _ (by decide +kernel)) ggX0_rounded_X0_requireArm
set_option maxRecDepth 20000 in
theorem ggX0_rounded_X0_roundRow : GoodIn wsX0_rounded wsX0_roundRow := goodIn_ca (goodIn_r _ [13, 9, 14, 15, 1, 16, 17, 18, 19, 5, 20, 21, 22, 23, 24, 25, 26, 27, 28, 29, 30, 31, 32, 33, 34, 35, 36, 37, 38, 39, 40, 41, 42, 43, 44, 45, 46, 47, 48, 49, 50, 51, 52, 53, 54, 55] (by decide +kernel) (by decide +kernel)) (goodIn_sub (fun _ h => List.mem_cons_of_mem _ (List.mem_append_left _ (List.mem_append_right _ h))) (by decide +kernel))
set_option maxRecDepth 20000 in
theorem gX0_rounded_X0_roundRow : GoodIn wsX0_rounded (wsV RX0 123 RX0 yX0_roundRow wsX0_roundRow) := goodIn_app (goodIn_of _ (by decide +kernel)) ggX0_rounded_X0_roundRow
set_option maxRecDepth 20000 in
theorem ggX0_rounded_X0_turn : GoodIn wsX0_rounded wsX0_turn := goodIn_r _ [23] (by decide +kernel) (by decide +kernel)
set_option maxRecDepth 20000 in
theorem gX0_rounded_X0_turn : GoodIn wsX0_rounded (va_wsS RX0 57 yX0_turn wsX0_turn) := goodIn_app (goodIn_of _ (by decide +kernel)) ggX0_rounded_X0_turn
theorem dX0_rounded_0 : decode cX0_rounded 0 = .ok (.aload_n 0, 1) := by decide +kernel
theorem dX0_rounded_1 : decode cX0_rounded 1 = .ok (.iload_n 1, 1) := by decide +kernel
theorem dX0_rounded_2 : decode cX0_rounded 2 = .ok (.invokevirtual 54, 3) := by decide +kernel
theorem dX0_rounded_5 : decode cX0_rounded 5 = .ok (.aload_n 0, 1) := by decide +kernel
theorem dX0_rounded_6 : decode cX0_rounded 6 = .ok (.iload_n 2, 1) := by decide +kernel
theorem dX0_rounded_7 : decode cX0_rounded 7 = .ok (.invokevirtual 54, 3) := by decide +kernel
theorem dX0_rounded_10 : decode cX0_rounded 10 = .ok (.aload_n 0, 1) := by decide +kernel
theorem dX0_rounded_11 : decode cX0_rounded 11 = .ok (.iload_n 1, 1) := by decide +kernel
theorem dX0_rounded_12 : decode cX0_rounded 12 = .ok (.invokevirtual 123, 3) := by decide +kernel
theorem dX0_rounded_15 : decode cX0_rounded 15 = .ok (.aload_n 0, 1) := by decide +kernel
theorem dX0_rounded_16 : decode cX0_rounded 16 = .ok (.getfield 26, 3) := by decide +kernel
theorem dX0_rounded_19 : decode cX0_rounded 19 = .ok (.iload_n 1, 1) := by decide +kernel
theorem dX0_rounded_20 : decode cX0_rounded 20 = .ok (.iload_n 2, 1) := by decide +kernel
theorem dX0_rounded_21 : decode cX0_rounded 21 = .ok (.invokestatic 57, 3) := by decide +kernel
theorem dX0_rounded_24 : decode cX0_rounded 24 = .ok (.iaload, 1) := by decide +kernel
theorem dX0_rounded_25 : decode cX0_rounded 25 = .ok (.ireturn, 1) := by decide +kernel
set_option maxRecDepth 20000 in
theorem ggX0_roundedMisfit_X0_roundAllRows : GoodIn wsX0_roundedMisfit wsX0_roundAllRows := goodIn_ca (goodIn_r _ [5, 6, 7, 8, 9, 4, 10, 11, 12, 13, 14, 15, 16, 17, 18, 19, 20, 21, 22, 23, 24, 25, 26, 27, 28, 29, 30, 31, 32, 33, 34, 35, 36, 37, 38, 39, 40, 41, 42, 51, 52, 53, 54, 55, 56, 57, 58, 59, 60, 61] (by decide +kernel) (by decide +kernel)) (goodIn_sub (fun _ h => List.mem_cons_of_mem _ (List.mem_append_right _ h)) (by decide +kernel))
set_option maxRecDepth 20000 in
theorem gX0_roundedMisfit_X0_roundAllRows : GoodIn wsX0_roundedMisfit (wsV RX0 126 RX0 yX0_roundAllRows wsX0_roundAllRows) := goodIn_app (goodIn_of _ (by decide +kernel)) ggX0_roundedMisfit_X0_roundAllRows
set_option maxRecDepth 20000 in
theorem ggX0_roundedMisfit_X0_roundedDifference : GoodIn wsX0_roundedMisfit wsX0_roundedDifference := goodIn_ca (goodIn_r _ [46, 6, 13, 47, 48, 49, 28, 50, 19, 20, 4, 21, 51, 52, 53, 54, 55, 56, 57, 58, 59, 60, 61] (by decide +kernel) (by decide +kernel)) (goodIn_sub (fun _ h => List.mem_cons_of_mem _ (List.mem_append_right _ h)) (by decide +kernel))
set_option maxRecDepth 20000 in
theorem gX0_roundedMisfit_X0_roundedDifference : GoodIn wsX0_roundedMisfit (wsV RX0 129 RX0 yX0_roundedDifference wsX0_roundedDifference) := goodIn_app (goodIn_of _ (by decide +kernel)) ggX0_roundedMisfit_X0_roundedDifference
theorem dX0_roundedMisfit_0 : decode cX0_roundedMisfit 0 = .ok (.aload_n 0, 1) := by decide +kernel
theorem dX0_roundedMisfit_1 : decode cX0_roundedMisfit 1 = .ok (.invokevirtual 126, 3) := by decide +kernel
theorem dX0_roundedMisfit_4 : decode cX0_roundedMisfit 4 = .ok (.aload_n 0, 1) := by decide +kernel
theorem dX0_roundedMisfit_5 : decode cX0_roundedMisfit 5 = .ok (.invokevirtual 129, 3) := by decide +kernel
theorem dX0_roundedMisfit_8 : decode cX0_roundedMisfit 8 = .ok (.ireturn, 1) := by decide +kernel
set_option maxRecDepth 20000 in
theorem ggX0_possible_X0_requireArm : GoodIn wsX0_possible wsX0_requireArm := goodIn_ca (goodIn_r _ [6, 7, 8, 9, 68, 69, 70, 71, 72, 73, 74, 75, 76, 77, 78] (by decide +kernel) (by decide +kernel)) (goodIn_sub (fun _ h => List.mem_cons_of_mem _ (List.mem_append_right _ h)) (by decide +kernel))
set_option maxRecDepth 20000 in
theorem gX0_possible_X0_requireArm : GoodIn wsX0_possible (wsV RX0 54 RX0 yX0_requireArm wsX0_requireArm) := goodIn_app (goodIn_of _ (by decide +kernel)) ggX0_possible_X0_requireArm
set_option maxRecDepth 20000 in
theorem ggX0_possible_X0_fillPossibleTable : GoodIn wsX0_possible wsX0_fillPossibleTable := goodIn_ca (goodIn_r _ [13, 14, 15, 16, 17, 18, 19, 9, 20, 1, 21, 22, 23, 5, 24, 25, 26, 27, 28, 29, 30, 31, 32, 33, 34, 35, 36, 37, 38, 39, 40, 41, 42, 43, 44, 45, 46, 47, 48, 49, 50, 51, 52, 53, 54, 55, 56, 57, 58, 59, 60, 61, 62, 63, 64, 65, 66, 67, 68, 69, 70, 71, 72, 73, 74, 75, 76, 77, 78] (by decide +kernel) (by decide +kernel)) (goodIn_sub (fun _ h => List.mem_cons_of_mem _ (List.mem_append_left _ (List.mem_append_right _ h))) (by decide +kernel))
set_option maxRecDepth 20000 in
theorem gX0_possible_X0_fillPossibleTable : GoodIn wsX0_possible (wsV RX0 132 RX0 yX0_fillPossibleTable wsX0_fillPossibleTable) := goodIn_app (goodIn_of _ (by decide +kernel)) ggX0_possible_X0_fillPossibleTable
set_option maxRecDepth 20000 in
theorem ggX0_possible_X0_turn : GoodIn wsX0_possible wsX0_turn := goodIn_r _ [67] (by decide +kernel) (by decide +kernel)
set_option maxRecDepth 20000 in
theorem gX0_possible_X0_turn : GoodIn wsX0_possible (va_wsS RX0 57 yX0_turn wsX0_turn) := goodIn_app (goodIn_of _ (by decide +kernel)) ggX0_possible_X0_turn
theorem dX0_possible_0 : decode cX0_possible 0 = .ok (.aload_n 0, 1) := by decide +kernel
theorem dX0_possible_1 : decode cX0_possible 1 = .ok (.iload_n 1, 1) := by decide +kernel
theorem dX0_possible_2 : decode cX0_possible 2 = .ok (.invokevirtual 54, 3) := by decide +kernel
theorem dX0_possible_5 : decode cX0_possible 5 = .ok (.aload_n 0, 1) := by decide +kernel
theorem dX0_possible_6 : decode cX0_possible 6 = .ok (.iload_n 2, 1) := by decide +kernel
theorem dX0_possible_7 : decode cX0_possible 7 = .ok (.invokevirtual 54, 3) := by decide +kernel
theorem dX0_possible_10 : decode cX0_possible 10 = .ok (.aload_n 0, 1) := by decide +kernel
theorem dX0_possible_11 : decode cX0_possible 11 = .ok (.invokevirtual 132, 3) := by decide +kernel
theorem dX0_possible_14 : decode cX0_possible 14 = .ok (.aload_n 0, 1) := by decide +kernel
theorem dX0_possible_15 : decode cX0_possible 15 = .ok (.getfield 29, 3) := by decide +kernel
theorem dX0_possible_18 : decode cX0_possible 18 = .ok (.iload_n 1, 1) := by decide +kernel
theorem dX0_possible_19 : decode cX0_possible 19 = .ok (.iload_n 2, 1) := by decide +kernel
theorem dX0_possible_20 : decode cX0_possible 20 = .ok (.invokestatic 57, 3) := by decide +kernel
theorem dX0_possible_23 : decode cX0_possible 23 = .ok (.iaload, 1) := by decide +kernel
theorem dX0_possible_24 : decode cX0_possible 24 = .ok (.ireturn, 1) := by decide +kernel
set_option maxRecDepth 20000 in
theorem ggX0_digest_X0_roundAllRows : GoodIn wsX0_digest wsX0_roundAllRows := goodIn_ca (goodIn_r _ [10, 2, 11, 12, 13, 9, 14, 15, 3, 16, 17, 18, 19, 20, 21, 22, 23, 24, 25, 26, 27, 28, 29, 30, 31, 32, 33, 34, 35, 36, 37, 38, 39, 40, 41, 42, 43, 44, 45, 123, 124, 125, 126, 127, 128, 129, 130, 131, 132, 133] (by decide +kernel) (by decide +kernel)) (goodIn_sub (fun _ h => List.mem_cons_of_mem _ (List.mem_append_right _ h)) (by decide +kernel))
set_option maxRecDepth 20000 in
theorem gX0_digest_X0_roundAllRows : GoodIn wsX0_digest (wsV RX0 126 RX0 yX0_roundAllRows wsX0_roundAllRows) := goodIn_app (goodIn_of _ (by decide +kernel)) ggX0_digest_X0_roundAllRows
set_option maxRecDepth 20000 in
theorem ggX0_digest_X0_fillPossibleTable : GoodIn wsX0_digest wsX0_fillPossibleTable := goodIn_ca (goodIn_r _ [49, 4, 50, 51, 52, 53, 54, 2, 3, 55, 56, 57, 58, 9, 59, 60, 61, 62, 63, 64, 65, 66, 67, 68, 69, 70, 71, 72, 73, 74, 75, 76, 77, 78, 79, 80, 81, 82, 83, 42, 43, 44, 45, 84, 85, 86, 87, 29, 30, 31, 32, 38, 39, 40, 41, 22, 23, 24, 123, 124, 125, 126, 127, 128, 129, 130, 131, 132, 133] (by decide +kernel) (by decide +kernel)) (goodIn_sub (fun _ h => List.mem_cons_of_mem _ (List.mem_append_right _ h)) (by decide +kernel))
set_option maxRecDepth 20000 in
theorem gX0_digest_X0_fillPossibleTable : GoodIn wsX0_digest (wsV RX0 132 RX0 yX0_fillPossibleTable wsX0_fillPossibleTable) := goodIn_app (goodIn_of _ (by decide +kernel)) ggX0_digest_X0_fillPossibleTable
set_option maxRecDepth 20000 in
theorem ggX0_digest_X0_mixed : GoodIn wsX0_digest wsX0_mixed := goodIn_r _ [90, 91] (by decide +kernel) (by decide +kernel)
set_option maxRecDepth 20000 in
theorem gX0_digest_X0_mixed : GoodIn wsX0_digest (va_wsS RX0 137 yX0_mixed wsX0_mixed) := goodIn_app (goodIn_of _ (by decide +kernel)) ggX0_digest_X0_mixed
set_option maxRecDepth 20000 in
theorem ggX0_digest_X0_turn : GoodIn wsX0_digest wsX0_turn := goodIn_r _ [24] (by decide +kernel) (by decide +kernel)
set_option maxRecDepth 20000 in
theorem gX0_digest_X0_turn : GoodIn wsX0_digest (va_wsS RX0 57 yX0_turn wsX0_turn) := goodIn_app (goodIn_of _ (by decide +kernel)) ggX0_digest_X0_turn
set_option maxRecDepth 20000 in
theorem ggX0_digest_X0_mixedTurn : GoodIn wsX0_digest wsX0_mixedTurn := goodIn_ca (goodIn_r _ [95, 96, 15, 16, 55, 88, 89, 9, 90, 91, 97, 98, 99, 100, 123, 124, 125, 126, 127, 128, 129, 130, 131, 132, 133] (by decide +kernel) (by decide +kernel)) (goodIn_sub (fun _ h => List.mem_cons_of_mem _ (List.mem_append_right _ h)) (by decide +kernel))
set_option maxRecDepth 20000 in
theorem gX0_digest_X0_mixedTurn : GoodIn wsX0_digest (wsV RX0 141 RX0 yX0_mixedTurn wsX0_mixedTurn) := goodIn_app (goodIn_of _ (by decide +kernel)) ggX0_digest_X0_mixedTurn
set_option maxRecDepth 20000 in
theorem ggX0_digest_X0_imbalance : GoodIn wsX0_digest wsX0_imbalance := goodIn_ca (goodIn_r _ [63, 3, 4, 64, 65, 66, 9, 67, 2, 123, 124, 125, 126, 127, 128, 129, 130, 131, 132, 133] (by decide +kernel) (by decide +kernel)) (goodIn_sub (fun _ h => List.mem_cons_of_mem _ (List.mem_append_right _ h)) (by decide +kernel))
set_option maxRecDepth 20000 in
theorem gX0_digest_X0_imbalance : GoodIn wsX0_digest (wsV RX0 78 RX0 yX0_imbalance wsX0_imbalance) := goodIn_app (goodIn_of _ (by decide +kernel)) ggX0_digest_X0_imbalance
set_option maxRecDepth 20000 in
theorem ggX0_digest_X0_crowdedSet : GoodIn wsX0_digest wsX0_crowdedSet := goodIn_ca (goodIn_r _ [71, 4, 72, 73, 74, 9, 75, 2, 76, 77, 78, 79, 3, 80, 81, 82, 83, 42, 43, 44, 45, 123, 124, 125, 126, 127, 128, 129, 130, 131, 132, 133] (by decide +kernel) (by decide +kernel)) (goodIn_sub (fun _ h => List.mem_cons_of_mem _ (List.mem_append_right _ h)) (by decide +kernel))
set_option maxRecDepth 20000 in
theorem gX0_digest_X0_crowdedSet : GoodIn wsX0_digest (wsV RX0 82 RX0 yX0_crowdedSet wsX0_crowdedSet) := goodIn_app (goodIn_of _ (by decide +kernel)) ggX0_digest_X0_crowdedSet
set_option maxRecDepth 20000 in
theorem ggX0_digest_X0_misfit : GoodIn wsX0_digest wsX0_misfit := goodIn_ca (goodIn_r _ [104, 2, 3, 4, 18, 19, 20, 9, 21, 15, 22, 23, 24, 105, 106, 107, 108, 109, 110, 111, 123, 124, 125, 126, 127, 128, 129, 130, 131, 132, 133] (by decide +kernel) (by decide +kernel)) (goodIn_sub (fun _ h => List.mem_cons_of_mem _ (List.mem_append_right _ h)) (by decide +kernel))
set_option maxRecDepth 20000 in
theorem gX0_digest_X0_misfit : GoodIn wsX0_digest (wsV RX0 101 RX0 yX0_misfit wsX0_misfit) := goodIn_app (goodIn_of _ (by decide +kernel)) ggX0_digest_X0_misfit
set_option maxRecDepth 20000 in
theorem ggX0_digest_X0_thousandthsOf : GoodIn wsX0_digest wsX0_thousandthsOf := goodIn_r _ [99, 100] (by decide +kernel) (by decide +kernel)
set_option maxRecDepth 20000 in
theorem gX0_digest_X0_thousandthsOf : GoodIn wsX0_digest (va_wsS RX0 145 yX0_thousandthsOf wsX0_thousandthsOf) := goodIn_app (goodIn_of _ (by decide +kernel)) ggX0_digest_X0_thousandthsOf
set_option maxRecDepth 20000 in
theorem ggX0_digest_X0_busiestTurn : GoodIn wsX0_digest wsX0_busiestTurn := goodIn_ca (goodIn_r _ [115, 2, 15, 22, 23, 9, 24, 123, 124, 125, 126, 127, 128, 129, 130, 131, 132, 133] (by decide +kernel) (by decide +kernel)) (goodIn_sub (fun _ h => List.mem_cons_of_mem _ (List.mem_append_right _ h)) (by decide +kernel))
set_option maxRecDepth 20000 in
theorem gX0_digest_X0_busiestTurn : GoodIn wsX0_digest (wsV RX0 149 RX0 yX0_busiestTurn wsX0_busiestTurn) := goodIn_app (goodIn_of _ (by decide +kernel)) ggX0_digest_X0_busiestTurn
set_option maxRecDepth 20000 in
theorem ggX0_digest_X0_roundedDifference : GoodIn wsX0_digest wsX0_roundedDifference := goodIn_ca (goodIn_r _ [119, 2, 16, 4, 120, 121, 31, 122, 22, 23, 9, 24, 123, 124, 125, 126, 127, 128, 129, 130, 131, 132, 133] (by decide +kernel) (by decide +kernel)) (goodIn_sub (fun _ h => List.mem_cons_of_mem _ (List.mem_append_right _ h)) (by decide +kernel))
set_option maxRecDepth 20000 in
theorem gX0_digest_X0_roundedDifference : GoodIn wsX0_digest (wsV RX0 129 RX0 yX0_roundedDifference wsX0_roundedDifference) := goodIn_app (goodIn_of _ (by decide +kernel)) ggX0_digest_X0_roundedDifference
theorem dX0_digest_0 : decode cX0_digest 0 = .ok (.aload_n 0, 1) := by decide +kernel
theorem dX0_digest_1 : decode cX0_digest 1 = .ok (.invokevirtual 126, 3) := by decide +kernel
theorem dX0_digest_4 : decode cX0_digest 4 = .ok (.aload_n 0, 1) := by decide +kernel
theorem dX0_digest_5 : decode cX0_digest 5 = .ok (.invokevirtual 132, 3) := by decide +kernel
theorem dX0_digest_8 : decode cX0_digest 8 = .ok (.ldc2_w 135, 3) := by decide +kernel
theorem dX0_digest_11 : decode cX0_digest 11 = .ok (.aload_n 0, 1) := by decide +kernel
theorem dX0_digest_12 : decode cX0_digest 12 = .ok (.getfield 46, 3) := by decide +kernel
theorem dX0_digest_15 : decode cX0_digest 15 = .ok (.i2l, 1) := by decide +kernel
theorem dX0_digest_16 : decode cX0_digest 16 = .ok (.invokestatic 137, 3) := by decide +kernel
theorem dX0_digest_19 : decode cX0_digest 19 = .ok (.lstore_n 1, 1) := by decide +kernel
theorem dX0_digest_20 : decode cX0_digest 20 = .ok (.iconst 0, 1) := by decide +kernel
theorem dX0_digest_21 : decode cX0_digest 21 = .ok (.istore_n 3, 1) := by decide +kernel
theorem dX0_digest_22 : decode cX0_digest 22 = .ok (.iload_n 3, 1) := by decide +kernel
theorem dX0_digest_23 : decode cX0_digest 23 = .ok (.aload_n 0, 1) := by decide +kernel
theorem dX0_digest_24 : decode cX0_digest 24 = .ok (.getfield 46, 3) := by decide +kernel
theorem dX0_digest_27 : decode cX0_digest 27 = .ok (.if_icmp .ge 33, 3) := by decide +kernel
theorem dX0_digest_30 : decode cX0_digest 30 = .ok (.lload_n 1, 1) := by decide +kernel
theorem dX0_digest_31 : decode cX0_digest 31 = .ok (.aload_n 0, 1) := by decide +kernel
theorem dX0_digest_32 : decode cX0_digest 32 = .ok (.getfield 9, 3) := by decide +kernel
theorem dX0_digest_35 : decode cX0_digest 35 = .ok (.iload_n 3, 1) := by decide +kernel
theorem dX0_digest_36 : decode cX0_digest 36 = .ok (.iaload, 1) := by decide +kernel
theorem dX0_digest_37 : decode cX0_digest 37 = .ok (.i2l, 1) := by decide +kernel
theorem dX0_digest_38 : decode cX0_digest 38 = .ok (.invokestatic 137, 3) := by decide +kernel
theorem dX0_digest_41 : decode cX0_digest 41 = .ok (.lstore_n 1, 1) := by decide +kernel
theorem dX0_digest_42 : decode cX0_digest 42 = .ok (.lload_n 1, 1) := by decide +kernel
theorem dX0_digest_43 : decode cX0_digest 43 = .ok (.aload_n 0, 1) := by decide +kernel
theorem dX0_digest_44 : decode cX0_digest 44 = .ok (.getfield 13, 3) := by decide +kernel
theorem dX0_digest_47 : decode cX0_digest 47 = .ok (.iload_n 3, 1) := by decide +kernel
theorem dX0_digest_48 : decode cX0_digest 48 = .ok (.iaload, 1) := by decide +kernel
theorem dX0_digest_49 : decode cX0_digest 49 = .ok (.i2l, 1) := by decide +kernel
theorem dX0_digest_50 : decode cX0_digest 50 = .ok (.invokestatic 137, 3) := by decide +kernel
theorem dX0_digest_53 : decode cX0_digest 53 = .ok (.lstore_n 1, 1) := by decide +kernel
theorem dX0_digest_54 : decode cX0_digest 54 = .ok (.iinc 3 1, 3) := by decide +kernel
theorem dX0_digest_57 : decode cX0_digest 57 = .ok (.goto (-35), 3) := by decide +kernel
theorem dX0_digest_60 : decode cX0_digest 60 = .ok (.iconst 0, 1) := by decide +kernel
theorem dX0_digest_61 : decode cX0_digest 61 = .ok (.istore_n 3, 1) := by decide +kernel
theorem dX0_digest_62 : decode cX0_digest 62 = .ok (.iload_n 3, 1) := by decide +kernel
theorem dX0_digest_63 : decode cX0_digest 63 = .ok (.aload_n 0, 1) := by decide +kernel
theorem dX0_digest_64 : decode cX0_digest 64 = .ok (.getfield 46, 3) := by decide +kernel
theorem dX0_digest_67 : decode cX0_digest 67 = .ok (.if_icmp .ge 39, 3) := by decide +kernel
theorem dX0_digest_70 : decode cX0_digest 70 = .ok (.iconst 0, 1) := by decide +kernel
theorem dX0_digest_71 : decode cX0_digest 71 = .ok (.istore 4, 2) := by decide +kernel
theorem dX0_digest_73 : decode cX0_digest 73 = .ok (.iload 4, 2) := by decide +kernel
theorem dX0_digest_75 : decode cX0_digest 75 = .ok (.aload_n 0, 1) := by decide +kernel
theorem dX0_digest_76 : decode cX0_digest 76 = .ok (.getfield 46, 3) := by decide +kernel
theorem dX0_digest_79 : decode cX0_digest 79 = .ok (.if_icmp .ge 21, 3) := by decide +kernel
theorem dX0_digest_82 : decode cX0_digest 82 = .ok (.aload_n 0, 1) := by decide +kernel
theorem dX0_digest_83 : decode cX0_digest 83 = .ok (.lload_n 1, 1) := by decide +kernel
theorem dX0_digest_84 : decode cX0_digest 84 = .ok (.iload_n 3, 1) := by decide +kernel
theorem dX0_digest_85 : decode cX0_digest 85 = .ok (.iload 4, 2) := by decide +kernel
theorem dX0_digest_87 : decode cX0_digest 87 = .ok (.invokestatic 57, 3) := by decide +kernel
theorem dX0_digest_90 : decode cX0_digest 90 = .ok (.invokevirtual 141, 3) := by decide +kernel
theorem dX0_digest_93 : decode cX0_digest 93 = .ok (.lstore_n 1, 1) := by decide +kernel
theorem dX0_digest_94 : decode cX0_digest 94 = .ok (.iinc 4 1, 3) := by decide +kernel
theorem dX0_digest_97 : decode cX0_digest 97 = .ok (.goto (-24), 3) := by decide +kernel
theorem dX0_digest_100 : decode cX0_digest 100 = .ok (.iinc 3 1, 3) := by decide +kernel
theorem dX0_digest_103 : decode cX0_digest 103 = .ok (.goto (-41), 3) := by decide +kernel
theorem dX0_digest_106 : decode cX0_digest 106 = .ok (.lload_n 1, 1) := by decide +kernel
theorem dX0_digest_107 : decode cX0_digest 107 = .ok (.aload_n 0, 1) := by decide +kernel
theorem dX0_digest_108 : decode cX0_digest 108 = .ok (.invokevirtual 78, 3) := by decide +kernel
theorem dX0_digest_111 : decode cX0_digest 111 = .ok (.i2l, 1) := by decide +kernel
theorem dX0_digest_112 : decode cX0_digest 112 = .ok (.invokestatic 137, 3) := by decide +kernel
theorem dX0_digest_115 : decode cX0_digest 115 = .ok (.lstore_n 1, 1) := by decide +kernel
theorem dX0_digest_116 : decode cX0_digest 116 = .ok (.lload_n 1, 1) := by decide +kernel
theorem dX0_digest_117 : decode cX0_digest 117 = .ok (.aload_n 0, 1) := by decide +kernel
theorem dX0_digest_118 : decode cX0_digest 118 = .ok (.invokevirtual 82, 3) := by decide +kernel
theorem dX0_digest_121 : decode cX0_digest 121 = .ok (.i2l, 1) := by decide +kernel
theorem dX0_digest_122 : decode cX0_digest 122 = .ok (.invokestatic 137, 3) := by decide +kernel
theorem dX0_digest_125 : decode cX0_digest 125 = .ok (.lstore_n 1, 1) := by decide +kernel
theorem dX0_digest_126 : decode cX0_digest 126 = .ok (.lload_n 1, 1) := by decide +kernel
theorem dX0_digest_127 : decode cX0_digest 127 = .ok (.aload_n 0, 1) := by decide +kernel
theorem dX0_digest_128 : decode cX0_digest 128 = .ok (.getfield 95, 3) := by decide +kernel
theorem dX0_digest_131 : decode cX0_digest 131 = .ok (.i2l, 1) := by decide +kernel
theorem dX0_digest_132 : decode cX0_digest 132 = .ok (.invokestatic 137, 3) := by decide +kernel
theorem dX0_digest_135 : decode cX0_digest 135 = .ok (.lstore_n 1, 1) := by decide +kernel
theorem dX0_digest_136 : decode cX0_digest 136 = .ok (.lload_n 1, 1) := by decide +kernel
theorem dX0_digest_137 : decode cX0_digest 137 = .ok (.aload_n 0, 1) := by decide +kernel
theorem dX0_digest_138 : decode cX0_digest 138 = .ok (.invokevirtual 101, 3) := by decide +kernel
theorem dX0_digest_141 : decode cX0_digest 141 = .ok (.invokestatic 145, 3) := by decide +kernel
theorem dX0_digest_144 : decode cX0_digest 144 = .ok (.invokestatic 137, 3) := by decide +kernel
theorem dX0_digest_147 : decode cX0_digest 147 = .ok (.lstore_n 1, 1) := by decide +kernel
theorem dX0_digest_148 : decode cX0_digest 148 = .ok (.lload_n 1, 1) := by decide +kernel
theorem dX0_digest_149 : decode cX0_digest 149 = .ok (.aload_n 0, 1) := by decide +kernel
theorem dX0_digest_150 : decode cX0_digest 150 = .ok (.invokevirtual 149, 3) := by decide +kernel
theorem dX0_digest_153 : decode cX0_digest 153 = .ok (.i2l, 1) := by decide +kernel
theorem dX0_digest_154 : decode cX0_digest 154 = .ok (.invokestatic 137, 3) := by decide +kernel
theorem dX0_digest_157 : decode cX0_digest 157 = .ok (.lstore_n 1, 1) := by decide +kernel
theorem dX0_digest_158 : decode cX0_digest 158 = .ok (.lload_n 1, 1) := by decide +kernel
theorem dX0_digest_159 : decode cX0_digest 159 = .ok (.aload_n 0, 1) := by decide +kernel
theorem dX0_digest_160 : decode cX0_digest 160 = .ok (.invokevirtual 129, 3) := by decide +kernel
theorem dX0_digest_163 : decode cX0_digest 163 = .ok (.i2l, 1) := by decide +kernel
theorem dX0_digest_164 : decode cX0_digest 164 = .ok (.invokestatic 137, 3) := by decide +kernel
theorem dX0_digest_167 : decode cX0_digest 167 = .ok (.lreturn, 1) := by decide +kernel
theorem dX0_requireArm_0 : decode cX0_requireArm 0 = .ok (.iload_n 1, 1) := by decide +kernel
theorem dX0_requireArm_1 : decode cX0_requireArm 1 = .ok (.ifCond .lt 11, 3) := by decide +kernel
theorem dX0_requireArm_4 : decode cX0_requireArm 4 = .ok (.iload_n 1, 1) := by decide +kernel
theorem dX0_requireArm_5 : decode cX0_requireArm 5 = .ok (.aload_n 0, 1) := by decide +kernel
theorem dX0_requireArm_6 : decode cX0_requireArm 6 = .ok (.getfield 46, 3) := by decide +kernel
theorem dX0_requireArm_9 : decode cX0_requireArm 9 = .ok (.if_icmp .lt 13, 3) := by decide +kernel
theorem dX0_requireArm_12 : decode cX0_requireArm 12 = .ok (.new 152, 3) := by decide +kernel
theorem dX0_requireArm_15 : decode cX0_requireArm 15 = .ok (.dup, 1) := by decide +kernel
theorem dX0_requireArm_16 : decode cX0_requireArm 16 = .ok (.ldc 154, 2) := by decide +kernel
theorem dX0_requireArm_18 : decode cX0_requireArm 18 = .ok (.invokespecial 156, 3) := by decide +kernel
theorem dX0_requireArm_21 : decode cX0_requireArm 21 = .ok (.athrow, 1) := by decide +kernel
theorem dX0_requireArm_22 : decode cX0_requireArm 22 = .ok (.return_, 1) := by decide +kernel
theorem dX0_requireWithin_0 : decode cX0_requireWithin 0 = .ok (.iload_n 0, 1) := by decide +kernel
theorem dX0_requireWithin_1 : decode cX0_requireWithin 1 = .ok (.iload_n 1, 1) := by decide +kernel
theorem dX0_requireWithin_2 : decode cX0_requireWithin 2 = .ok (.if_icmp .lt 8, 3) := by decide +kernel
theorem dX0_requireWithin_5 : decode cX0_requireWithin 5 = .ok (.iload_n 0, 1) := by decide +kernel
theorem dX0_requireWithin_6 : decode cX0_requireWithin 6 = .ok (.iload_n 2, 1) := by decide +kernel
theorem dX0_requireWithin_7 : decode cX0_requireWithin 7 = .ok (.if_icmp .le 13, 3) := by decide +kernel
theorem dX0_requireWithin_10 : decode cX0_requireWithin 10 = .ok (.new 157, 3) := by decide +kernel
theorem dX0_requireWithin_13 : decode cX0_requireWithin 13 = .ok (.dup, 1) := by decide +kernel
theorem dX0_requireWithin_14 : decode cX0_requireWithin 14 = .ok (.ldc 159, 2) := by decide +kernel
theorem dX0_requireWithin_16 : decode cX0_requireWithin 16 = .ok (.invokespecial 161, 3) := by decide +kernel
theorem dX0_requireWithin_19 : decode cX0_requireWithin 19 = .ok (.athrow, 1) := by decide +kernel
theorem dX0_requireWithin_20 : decode cX0_requireWithin 20 = .ok (.return_, 1) := by decide +kernel
set_option maxRecDepth 20000 in
theorem ggX0_requireScalable_X0_scaled : GoodIn wsX0_requireScalable wsX0_scaled := goodIn_r _ [6] (by decide +kernel) (by decide +kernel)
set_option maxRecDepth 20000 in
theorem gX0_requireScalable_X0_scaled : GoodIn wsX0_requireScalable (va_wsS RX0 71 yX0_scaled wsX0_scaled) := goodIn_app (goodIn_of _ (by decide +kernel)) ggX0_requireScalable_X0_scaled
theorem dX0_requireScalable_0 : decode cX0_requireScalable 0 = .ok (.iload_n 0, 1) := by decide +kernel
theorem dX0_requireScalable_1 : decode cX0_requireScalable 1 = .ok (.iload_n 1, 1) := by decide +kernel
theorem dX0_requireScalable_2 : decode cX0_requireScalable 2 = .ok (.invokestatic 71, 3) := by decide +kernel
theorem dX0_requireScalable_5 : decode cX0_requireScalable 5 = .ok (.sipush 9999, 3) := by decide +kernel
theorem dX0_requireScalable_8 : decode cX0_requireScalable 8 = .ok (.if_icmp .le 13, 3) := by decide +kernel
theorem dX0_requireScalable_11 : decode cX0_requireScalable 11 = .ok (.new 162, 3) := by decide +kernel
theorem dX0_requireScalable_14 : decode cX0_requireScalable 14 = .ok (.dup, 1) := by decide +kernel
theorem dX0_requireScalable_15 : decode cX0_requireScalable 15 = .ok (.ldc 164, 2) := by decide +kernel
theorem dX0_requireScalable_17 : decode cX0_requireScalable 17 = .ok (.invokespecial 166, 3) := by decide +kernel
theorem dX0_requireScalable_20 : decode cX0_requireScalable 20 = .ok (.athrow, 1) := by decide +kernel
theorem dX0_requireScalable_21 : decode cX0_requireScalable 21 = .ok (.return_, 1) := by decide +kernel
theorem dX0_turn_0 : decode cX0_turn 0 = .ok (.iload_n 0, 1) := by decide +kernel
theorem dX0_turn_1 : decode cX0_turn 1 = .ok (.bipush 6, 2) := by decide +kernel
theorem dX0_turn_3 : decode cX0_turn 3 = .ok (.imul, 1) := by decide +kernel
theorem dX0_turn_4 : decode cX0_turn 4 = .ok (.iload_n 1, 1) := by decide +kernel
theorem dX0_turn_5 : decode cX0_turn 5 = .ok (.iadd, 1) := by decide +kernel
theorem dX0_turn_6 : decode cX0_turn 6 = .ok (.ireturn, 1) := by decide +kernel
theorem dX0_allArms_0 : decode cX0_allArms 0 = .ok (.iconst 1, 1) := by decide +kernel
theorem dX0_allArms_1 : decode cX0_allArms 1 = .ok (.aload_n 0, 1) := by decide +kernel
theorem dX0_allArms_2 : decode cX0_allArms 2 = .ok (.getfield 46, 3) := by decide +kernel
theorem dX0_allArms_5 : decode cX0_allArms 5 = .ok (.ishl, 1) := by decide +kernel
theorem dX0_allArms_6 : decode cX0_allArms 6 = .ok (.iconst 1, 1) := by decide +kernel
theorem dX0_allArms_7 : decode cX0_allArms 7 = .ok (.isub, 1) := by decide +kernel
theorem dX0_allArms_8 : decode cX0_allArms 8 = .ok (.ireturn, 1) := by decide +kernel
end
section
theorem dX0_contains_0 : decode cX0_contains 0 = .ok (.iload_n 0, 1) := by decide +kernel
theorem dX0_contains_1 : decode cX0_contains 1 = .ok (.iconst 1, 1) := by decide +kernel
theorem dX0_contains_2 : decode cX0_contains 2 = .ok (.iload_n 1, 1) := by decide +kernel
theorem dX0_contains_3 : decode cX0_contains 3 = .ok (.ishl, 1) := by decide +kernel
theorem dX0_contains_4 : decode cX0_contains 4 = .ok (.iand, 1) := by decide +kernel
theorem dX0_contains_5 : decode cX0_contains 5 = .ok (.ifCond .eq 7, 3) := by decide +kernel
theorem dX0_contains_8 : decode cX0_contains 8 = .ok (.iconst 1, 1) := by decide +kernel
theorem dX0_contains_9 : decode cX0_contains 9 = .ok (.goto 4, 3) := by decide +kernel
theorem dX0_contains_12 : decode cX0_contains 12 = .ok (.iconst 0, 1) := by decide +kernel
theorem dX0_contains_13 : decode cX0_contains 13 = .ok (.ireturn, 1) := by decide +kernel
set_option maxRecDepth 20000 in
theorem ggX0_isOpen_X0_contains : GoodIn wsX0_isOpen wsX0_contains := goodIn_r _ [5] (by decide +kernel) (by decide +kernel)
set_option maxRecDepth 20000 in
theorem gX0_isOpen_X0_contains : GoodIn wsX0_isOpen (va_wsS RX0 167 yX0_contains wsX0_contains) := goodIn_app (goodIn_of _ (by decide +kernel)) ggX0_isOpen_X0_contains
theorem dX0_isOpen_0 : decode cX0_isOpen 0 = .ok (.aload_n 0, 1) := by decide +kernel
theorem dX0_isOpen_1 : decode cX0_isOpen 1 = .ok (.getfield 23, 3) := by decide +kernel
theorem dX0_isOpen_4 : decode cX0_isOpen 4 = .ok (.iload_n 1, 1) := by decide +kernel
theorem dX0_isOpen_5 : decode cX0_isOpen 5 = .ok (.iaload, 1) := by decide +kernel
theorem dX0_isOpen_6 : decode cX0_isOpen 6 = .ok (.iload_n 2, 1) := by decide +kernel
theorem dX0_isOpen_7 : decode cX0_isOpen 7 = .ok (.invokestatic 167, 3) := by decide +kernel
theorem dX0_isOpen_10 : decode cX0_isOpen 10 = .ok (.ireturn, 1) := by decide +kernel
set_option maxRecDepth 20000 in
theorem ggX0_beginJunction_X0_putWeight : GoodIn wsX0_beginJunction wsX0_putWeight := goodIn_ca (goodIn_r _ [9, 10, 4, 11, 12, 8, 13, 20, 21, 22, 23, 24, 25, 26, 27, 28, 29, 30] (by decide +kernel) (by decide +kernel)) (goodIn_sub (fun _ h => List.mem_cons_of_mem _ (List.mem_append_right _ h)) (by decide +kernel))
set_option maxRecDepth 20000 in
theorem gX0_beginJunction_X0_putWeight : GoodIn wsX0_beginJunction (wsV RX0 61 RX0 yX0_putWeight wsX0_putWeight) := goodIn_app (goodIn_of _ (by decide +kernel)) ggX0_beginJunction_X0_putWeight
set_option maxRecDepth 20000 in
theorem ggX0_beginJunction_X0_resetEstimate : GoodIn wsX0_beginJunction wsX0_resetEstimate := goodIn_ca (goodIn_r _ [17, 1, 18, 10, 19, 11, 12, 8, 13, 20, 21, 22, 23, 24, 25, 26, 27, 28, 29, 30] (by decide +kernel) (by decide +kernel)) (goodIn_sub (fun _ h => List.mem_cons_of_mem _ (List.mem_append_right _ h)) (by decide +kernel))
set_option maxRecDepth 20000 in
theorem gX0_beginJunction_X0_resetEstimate : GoodIn wsX0_beginJunction (wsV RX0 64 RX0 yX0_resetEstimate wsX0_resetEstimate) := goodIn_app (goodIn_of _ (by decide +kernel)) ggX0_beginJunction_X0_resetEstimate
theorem dX0_beginJunction_0 : decode cX0_beginJunction 0 = .ok (.aload_n 0, 1) := by decide +kernel
theorem dX0_beginJunction_1 : decode cX0_beginJunction 1 = .ok (.iload_n 1, 1) := by decide +kernel
theorem dX0_beginJunction_2 : decode cX0_beginJunction 2 = .ok (.putfield 46, 3) := by decide +kernel
theorem dX0_beginJunction_5 : decode cX0_beginJunction 5 = .ok (.iconst 0, 1) := by decide +kernel
theorem dX0_beginJunction_6 : decode cX0_beginJunction 6 = .ok (.istore_n 2, 1) := by decide +kernel
theorem dX0_beginJunction_7 : decode cX0_beginJunction 7 = .ok (.iload_n 2, 1) := by decide +kernel
theorem dX0_beginJunction_8 : decode cX0_beginJunction 8 = .ok (.aload_n 0, 1) := by decide +kernel
theorem dX0_beginJunction_9 : decode cX0_beginJunction 9 = .ok (.getfield 46, 3) := by decide +kernel
theorem dX0_beginJunction_12 : decode cX0_beginJunction 12 = .ok (.if_icmp .ge 62, 3) := by decide +kernel
theorem dX0_beginJunction_15 : decode cX0_beginJunction 15 = .ok (.aload_n 0, 1) := by decide +kernel
theorem dX0_beginJunction_16 : decode cX0_beginJunction 16 = .ok (.getfield 9, 3) := by decide +kernel
theorem dX0_beginJunction_19 : decode cX0_beginJunction 19 = .ok (.iload_n 2, 1) := by decide +kernel
theorem dX0_beginJunction_20 : decode cX0_beginJunction 20 = .ok (.iconst 0, 1) := by decide +kernel
theorem dX0_beginJunction_21 : decode cX0_beginJunction 21 = .ok (.iastore, 1) := by decide +kernel
theorem dX0_beginJunction_22 : decode cX0_beginJunction 22 = .ok (.aload_n 0, 1) := by decide +kernel
theorem dX0_beginJunction_23 : decode cX0_beginJunction 23 = .ok (.getfield 13, 3) := by decide +kernel
theorem dX0_beginJunction_26 : decode cX0_beginJunction 26 = .ok (.iload_n 2, 1) := by decide +kernel
theorem dX0_beginJunction_27 : decode cX0_beginJunction 27 = .ok (.iconst 0, 1) := by decide +kernel
theorem dX0_beginJunction_28 : decode cX0_beginJunction 28 = .ok (.iastore, 1) := by decide +kernel
theorem dX0_beginJunction_29 : decode cX0_beginJunction 29 = .ok (.aload_n 0, 1) := by decide +kernel
theorem dX0_beginJunction_30 : decode cX0_beginJunction 30 = .ok (.getfield 23, 3) := by decide +kernel
theorem dX0_beginJunction_33 : decode cX0_beginJunction 33 = .ok (.iload_n 2, 1) := by decide +kernel
theorem dX0_beginJunction_34 : decode cX0_beginJunction 34 = .ok (.iconst 0, 1) := by decide +kernel
theorem dX0_beginJunction_35 : decode cX0_beginJunction 35 = .ok (.iastore, 1) := by decide +kernel
theorem dX0_beginJunction_36 : decode cX0_beginJunction 36 = .ok (.iconst 0, 1) := by decide +kernel
theorem dX0_beginJunction_37 : decode cX0_beginJunction 37 = .ok (.istore_n 3, 1) := by decide +kernel
theorem dX0_beginJunction_38 : decode cX0_beginJunction 38 = .ok (.iload_n 3, 1) := by decide +kernel
theorem dX0_beginJunction_39 : decode cX0_beginJunction 39 = .ok (.aload_n 0, 1) := by decide +kernel
theorem dX0_beginJunction_40 : decode cX0_beginJunction 40 = .ok (.getfield 46, 3) := by decide +kernel
theorem dX0_beginJunction_43 : decode cX0_beginJunction 43 = .ok (.if_icmp .ge 25, 3) := by decide +kernel
theorem dX0_beginJunction_46 : decode cX0_beginJunction 46 = .ok (.aload_n 0, 1) := by decide +kernel
theorem dX0_beginJunction_47 : decode cX0_beginJunction 47 = .ok (.iload_n 2, 1) := by decide +kernel
theorem dX0_beginJunction_48 : decode cX0_beginJunction 48 = .ok (.iload_n 3, 1) := by decide +kernel
theorem dX0_beginJunction_49 : decode cX0_beginJunction 49 = .ok (.iload_n 2, 1) := by decide +kernel
theorem dX0_beginJunction_50 : decode cX0_beginJunction 50 = .ok (.iload_n 3, 1) := by decide +kernel
theorem dX0_beginJunction_51 : decode cX0_beginJunction 51 = .ok (.if_icmp .ne 7, 3) := by decide +kernel
theorem dX0_beginJunction_54 : decode cX0_beginJunction 54 = .ok (.iconst 0, 1) := by decide +kernel
theorem dX0_beginJunction_55 : decode cX0_beginJunction 55 = .ok (.goto 4, 3) := by decide +kernel
theorem dX0_beginJunction_58 : decode cX0_beginJunction 58 = .ok (.iconst 1, 1) := by decide +kernel
theorem dX0_beginJunction_59 : decode cX0_beginJunction 59 = .ok (.invokevirtual 61, 3) := by decide +kernel
theorem dX0_beginJunction_62 : decode cX0_beginJunction 62 = .ok (.iinc 3 1, 3) := by decide +kernel
theorem dX0_beginJunction_65 : decode cX0_beginJunction 65 = .ok (.goto (-27), 3) := by decide +kernel
theorem dX0_beginJunction_68 : decode cX0_beginJunction 68 = .ok (.iinc 2 1, 3) := by decide +kernel
theorem dX0_beginJunction_71 : decode cX0_beginJunction 71 = .ok (.goto (-64), 3) := by decide +kernel
theorem dX0_beginJunction_74 : decode cX0_beginJunction 74 = .ok (.aload_n 0, 1) := by decide +kernel
theorem dX0_beginJunction_75 : decode cX0_beginJunction 75 = .ok (.invokevirtual 64, 3) := by decide +kernel
theorem dX0_beginJunction_78 : decode cX0_beginJunction 78 = .ok (.return_, 1) := by decide +kernel
set_option maxRecDepth 20000 in
theorem ggX0_putWeight_X0_turn : GoodIn wsX0_putWeight wsX0_turn := goodIn_r _ [6] (by decide +kernel) (by decide +kernel)
set_option maxRecDepth 20000 in
theorem gX0_putWeight_X0_turn : GoodIn wsX0_putWeight (va_wsS RX0 57 yX0_turn wsX0_turn) := goodIn_app (goodIn_of _ (by decide +kernel)) ggX0_putWeight_X0_turn
theorem dX0_putWeight_0 : decode cX0_putWeight 0 = .ok (.aload_n 0, 1) := by decide +kernel
theorem dX0_putWeight_1 : decode cX0_putWeight 1 = .ok (.getfield 16, 3) := by decide +kernel
theorem dX0_putWeight_4 : decode cX0_putWeight 4 = .ok (.iload_n 1, 1) := by decide +kernel
theorem dX0_putWeight_5 : decode cX0_putWeight 5 = .ok (.iload_n 2, 1) := by decide +kernel
theorem dX0_putWeight_6 : decode cX0_putWeight 6 = .ok (.invokestatic 57, 3) := by decide +kernel
theorem dX0_putWeight_9 : decode cX0_putWeight 9 = .ok (.iload_n 3, 1) := by decide +kernel
theorem dX0_putWeight_10 : decode cX0_putWeight 10 = .ok (.iastore, 1) := by decide +kernel
theorem dX0_putWeight_11 : decode cX0_putWeight 11 = .ok (.iload_n 3, 1) := by decide +kernel
theorem dX0_putWeight_12 : decode cX0_putWeight 12 = .ok (.ifCond .le 18, 3) := by decide +kernel
theorem dX0_putWeight_15 : decode cX0_putWeight 15 = .ok (.aload_n 0, 1) := by decide +kernel
theorem dX0_putWeight_16 : decode cX0_putWeight 16 = .ok (.getfield 23, 3) := by decide +kernel
theorem dX0_putWeight_19 : decode cX0_putWeight 19 = .ok (.iload_n 1, 1) := by decide +kernel
theorem dX0_putWeight_20 : decode cX0_putWeight 20 = .ok (.dup2, 1) := by decide +kernel
theorem dX0_putWeight_21 : decode cX0_putWeight 21 = .ok (.iaload, 1) := by decide +kernel
theorem dX0_putWeight_22 : decode cX0_putWeight 22 = .ok (.iconst 1, 1) := by decide +kernel
theorem dX0_putWeight_23 : decode cX0_putWeight 23 = .ok (.iload_n 2, 1) := by decide +kernel
theorem dX0_putWeight_24 : decode cX0_putWeight 24 = .ok (.ishl, 1) := by decide +kernel
theorem dX0_putWeight_25 : decode cX0_putWeight 25 = .ok (.ior, 1) := by decide +kernel
theorem dX0_putWeight_26 : decode cX0_putWeight 26 = .ok (.iastore, 1) := by decide +kernel
theorem dX0_putWeight_27 : decode cX0_putWeight 27 = .ok (.goto 17, 3) := by decide +kernel
theorem dX0_putWeight_30 : decode cX0_putWeight 30 = .ok (.aload_n 0, 1) := by decide +kernel
theorem dX0_putWeight_31 : decode cX0_putWeight 31 = .ok (.getfield 23, 3) := by decide +kernel
theorem dX0_putWeight_34 : decode cX0_putWeight 34 = .ok (.iload_n 1, 1) := by decide +kernel
theorem dX0_putWeight_35 : decode cX0_putWeight 35 = .ok (.dup2, 1) := by decide +kernel
theorem dX0_putWeight_36 : decode cX0_putWeight 36 = .ok (.iaload, 1) := by decide +kernel
theorem dX0_putWeight_37 : decode cX0_putWeight 37 = .ok (.iconst 1, 1) := by decide +kernel
theorem dX0_putWeight_38 : decode cX0_putWeight 38 = .ok (.iload_n 2, 1) := by decide +kernel
theorem dX0_putWeight_39 : decode cX0_putWeight 39 = .ok (.ishl, 1) := by decide +kernel
theorem dX0_putWeight_40 : decode cX0_putWeight 40 = .ok (.iconst (-1), 1) := by decide +kernel
theorem dX0_putWeight_41 : decode cX0_putWeight 41 = .ok (.ixor, 1) := by decide +kernel
theorem dX0_putWeight_42 : decode cX0_putWeight 42 = .ok (.iand, 1) := by decide +kernel
theorem dX0_putWeight_43 : decode cX0_putWeight 43 = .ok (.iastore, 1) := by decide +kernel
theorem dX0_putWeight_44 : decode cX0_putWeight 44 = .ok (.return_, 1) := by decide +kernel
set_option maxRecDepth 20000 in
theorem ggX0_setCount_X0_requireArm : GoodIn wsX0_setCount wsX0_requireArm := goodIn_ca (goodIn_r _ [5, 6, 7, 8, 24, 25, 26, 27, 28, 29, 30, 31, 32, 33, 34] (by decide +kernel) (by decide +kernel)) (goodIn_sub (fun _ h => List.mem_cons_of_mem _ (List.mem_append_left _ (List.mem_append_right _ h))) (by decide +kernel))
set_option maxRecDepth 20000 in
theorem gX0_setCount_X0_requireArm : GoodIn wsX0_setCount (wsV RX0 54 RX0 yX0_requireArm wsX0_requireArm) := goodIn_app (goodIn_of _ (by decide +kernel)) ggX0_setCount_X0_requireArm
set_option maxRecDepth 20000 in
theorem ggX0_setCount_X0_requireWithin : GoodIn wsX0_setCount wsX0_requireWithin := goodIn_ca (goodIn_r _ [11, 12, 13] (by decide +kernel) (by decide +kernel)) (goodIn_sub (fun _ h => List.mem_cons_of_mem _ (List.mem_append_right _ h)) (by decide +kernel))
set_option maxRecDepth 20000 in
theorem gX0_setCount_X0_requireWithin : GoodIn wsX0_setCount (va_wsS RX0 42 yX0_requireWithin wsX0_requireWithin) := goodIn_app (goodIn_of _ (by decide +kernel)) ggX0_setCount_X0_requireWithin
set_option maxRecDepth 20000 in
theorem ggX0_setCount_X0_resetEstimate : GoodIn wsX0_setCount wsX0_resetEstimate := goodIn_ca (goodIn_r _ [17, 8, 18, 19, 20, 21, 22, 4, 23, 24, 25, 26, 27, 28, 29, 30, 31, 32, 33, 34] (by decide +kernel) (by decide +kernel)) (goodIn_sub (fun _ h => List.mem_cons_of_mem _ (List.mem_append_left _ (List.mem_append_left _ (List.mem_append_right _ h)))) (by decide +kernel))
set_option maxRecDepth 20000 in
theorem gX0_setCount_X0_resetEstimate : GoodIn wsX0_setCount (wsV RX0 64 RX0 yX0_resetEstimate wsX0_resetEstimate) := goodIn_app (goodIn_of _ (by decide +kernel)) ggX0_setCount_X0_resetEstimate
theorem dX0_setCount_0 : decode cX0_setCount 0 = .ok (.aload_n 0, 1) := by decide +kernel
theorem dX0_setCount_1 : decode cX0_setCount 1 = .ok (.iload_n 2, 1) := by decide +kernel
theorem dX0_setCount_2 : decode cX0_setCount 2 = .ok (.invokevirtual 54, 3) := by decide +kernel
theorem dX0_setCount_5 : decode cX0_setCount 5 = .ok (.iload_n 3, 1) := by decide +kernel
theorem dX0_setCount_6 : decode cX0_setCount 6 = .ok (.iconst 0, 1) := by decide +kernel
theorem dX0_setCount_7 : decode cX0_setCount 7 = .ok (.sipush 9999, 3) := by decide +kernel
theorem dX0_setCount_10 : decode cX0_setCount 10 = .ok (.invokestatic 42, 3) := by decide +kernel
theorem dX0_setCount_13 : decode cX0_setCount 13 = .ok (.aload_n 1, 1) := by decide +kernel
theorem dX0_setCount_14 : decode cX0_setCount 14 = .ok (.iload_n 2, 1) := by decide +kernel
theorem dX0_setCount_15 : decode cX0_setCount 15 = .ok (.iaload, 1) := by decide +kernel
theorem dX0_setCount_16 : decode cX0_setCount 16 = .ok (.istore 4, 2) := by decide +kernel
theorem dX0_setCount_18 : decode cX0_setCount 18 = .ok (.aload_n 1, 1) := by decide +kernel
theorem dX0_setCount_19 : decode cX0_setCount 19 = .ok (.iload_n 2, 1) := by decide +kernel
theorem dX0_setCount_20 : decode cX0_setCount 20 = .ok (.iload_n 3, 1) := by decide +kernel
theorem dX0_setCount_21 : decode cX0_setCount 21 = .ok (.iastore, 1) := by decide +kernel
theorem dX0_setCount_22 : decode cX0_setCount 22 = .ok (.aload_n 0, 1) := by decide +kernel
theorem dX0_setCount_23 : decode cX0_setCount 23 = .ok (.invokevirtual 64, 3) := by decide +kernel
theorem dX0_setCount_26 : decode cX0_setCount 26 = .ok (.iload 4, 2) := by decide +kernel
theorem dX0_setCount_28 : decode cX0_setCount 28 = .ok (.ireturn, 1) := by decide +kernel
theorem dX0_scaled_0 : decode cX0_scaled 0 = .ok (.iload_n 0, 1) := by decide +kernel
theorem dX0_scaled_1 : decode cX0_scaled 1 = .ok (.iload_n 1, 1) := by decide +kernel
theorem dX0_scaled_2 : decode cX0_scaled 2 = .ok (.imul, 1) := by decide +kernel
theorem dX0_scaled_3 : decode cX0_scaled 3 = .ok (.bipush 50, 2) := by decide +kernel
theorem dX0_scaled_5 : decode cX0_scaled 5 = .ok (.iadd, 1) := by decide +kernel
theorem dX0_scaled_6 : decode cX0_scaled 6 = .ok (.bipush 100, 2) := by decide +kernel
theorem dX0_scaled_8 : decode cX0_scaled 8 = .ok (.idiv, 1) := by decide +kernel
theorem dX0_scaled_9 : decode cX0_scaled 9 = .ok (.ireturn, 1) := by decide +kernel
theorem dX0_total_0 : decode cX0_total 0 = .ok (.iconst 0, 1) := by decide +kernel
theorem dX0_total_1 : decode cX0_total 1 = .ok (.istore_n 2, 1) := by decide +kernel
theorem dX0_total_2 : decode cX0_total 2 = .ok (.iconst 0, 1) := by decide +kernel
theorem dX0_total_3 : decode cX0_total 3 = .ok (.istore_n 3, 1) := by decide +kernel
theorem dX0_total_4 : decode cX0_total 4 = .ok (.iload_n 3, 1) := by decide +kernel
theorem dX0_total_5 : decode cX0_total 5 = .ok (.aload_n 0, 1) := by decide +kernel
theorem dX0_total_6 : decode cX0_total 6 = .ok (.getfield 46, 3) := by decide +kernel
theorem dX0_total_9 : decode cX0_total 9 = .ok (.if_icmp .ge 15, 3) := by decide +kernel
theorem dX0_total_12 : decode cX0_total 12 = .ok (.iload_n 2, 1) := by decide +kernel
theorem dX0_total_13 : decode cX0_total 13 = .ok (.aload_n 1, 1) := by decide +kernel
theorem dX0_total_14 : decode cX0_total 14 = .ok (.iload_n 3, 1) := by decide +kernel
theorem dX0_total_15 : decode cX0_total 15 = .ok (.iaload, 1) := by decide +kernel
theorem dX0_total_16 : decode cX0_total 16 = .ok (.iadd, 1) := by decide +kernel
theorem dX0_total_17 : decode cX0_total 17 = .ok (.istore_n 2, 1) := by decide +kernel
theorem dX0_total_18 : decode cX0_total 18 = .ok (.iinc 3 1, 3) := by decide +kernel
theorem dX0_total_21 : decode cX0_total 21 = .ok (.goto (-17), 3) := by decide +kernel
theorem dX0_total_24 : decode cX0_total 24 = .ok (.iload_n 2, 1) := by decide +kernel
theorem dX0_total_25 : decode cX0_total 25 = .ok (.ireturn, 1) := by decide +kernel
set_option maxRecDepth 20000 in
theorem ggX0_reachedFrom_X0_contains : GoodIn wsX0_reachedFrom wsX0_contains := goodIn_r _ [6] (by decide +kernel) (by decide +kernel)
set_option maxRecDepth 20000 in
theorem gX0_reachedFrom_X0_contains : GoodIn wsX0_reachedFrom (va_wsS RX0 167 yX0_contains wsX0_contains) := goodIn_app (goodIn_of _ (by decide +kernel)) ggX0_reachedFrom_X0_contains
theorem dX0_reachedFrom_0 : decode cX0_reachedFrom 0 = .ok (.iconst 0, 1) := by decide +kernel
theorem dX0_reachedFrom_1 : decode cX0_reachedFrom 1 = .ok (.istore_n 2, 1) := by decide +kernel
theorem dX0_reachedFrom_2 : decode cX0_reachedFrom 2 = .ok (.iconst 0, 1) := by decide +kernel
theorem dX0_reachedFrom_3 : decode cX0_reachedFrom 3 = .ok (.istore_n 3, 1) := by decide +kernel
theorem dX0_reachedFrom_4 : decode cX0_reachedFrom 4 = .ok (.iload_n 3, 1) := by decide +kernel
theorem dX0_reachedFrom_5 : decode cX0_reachedFrom 5 = .ok (.aload_n 0, 1) := by decide +kernel
theorem dX0_reachedFrom_6 : decode cX0_reachedFrom 6 = .ok (.getfield 46, 3) := by decide +kernel
theorem dX0_reachedFrom_9 : decode cX0_reachedFrom 9 = .ok (.if_icmp .ge 26, 3) := by decide +kernel
theorem dX0_reachedFrom_12 : decode cX0_reachedFrom 12 = .ok (.iload_n 1, 1) := by decide +kernel
theorem dX0_reachedFrom_13 : decode cX0_reachedFrom 13 = .ok (.iload_n 3, 1) := by decide +kernel
theorem dX0_reachedFrom_14 : decode cX0_reachedFrom 14 = .ok (.invokestatic 167, 3) := by decide +kernel
theorem dX0_reachedFrom_17 : decode cX0_reachedFrom 17 = .ok (.ifCond .eq 12, 3) := by decide +kernel
theorem dX0_reachedFrom_20 : decode cX0_reachedFrom 20 = .ok (.iload_n 2, 1) := by decide +kernel
theorem dX0_reachedFrom_21 : decode cX0_reachedFrom 21 = .ok (.aload_n 0, 1) := by decide +kernel
theorem dX0_reachedFrom_22 : decode cX0_reachedFrom 22 = .ok (.getfield 23, 3) := by decide +kernel
theorem dX0_reachedFrom_25 : decode cX0_reachedFrom 25 = .ok (.iload_n 3, 1) := by decide +kernel
theorem dX0_reachedFrom_26 : decode cX0_reachedFrom 26 = .ok (.iaload, 1) := by decide +kernel
theorem dX0_reachedFrom_27 : decode cX0_reachedFrom 27 = .ok (.ior, 1) := by decide +kernel
theorem dX0_reachedFrom_28 : decode cX0_reachedFrom 28 = .ok (.istore_n 2, 1) := by decide +kernel
theorem dX0_reachedFrom_29 : decode cX0_reachedFrom 29 = .ok (.iinc 3 1, 3) := by decide +kernel
theorem dX0_reachedFrom_32 : decode cX0_reachedFrom 32 = .ok (.goto (-28), 3) := by decide +kernel
theorem dX0_reachedFrom_35 : decode cX0_reachedFrom 35 = .ok (.iload_n 2, 1) := by decide +kernel
theorem dX0_reachedFrom_36 : decode cX0_reachedFrom 36 = .ok (.ireturn, 1) := by decide +kernel
set_option maxRecDepth 20000 in
theorem ggX0_excessOver_X0_reachedFrom : GoodIn wsX0_excessOver wsX0_reachedFrom := goodIn_ca (goodIn_r _ [7, 1, 8, 9, 10, 6, 11, 12, 13, 14, 15, 16, 17, 18, 19, 20, 21, 22] (by decide +kernel) (by decide +kernel)) (goodIn_sub (fun _ h => List.mem_cons_of_mem _ (List.mem_append_right _ h)) (by decide +kernel))
set_option maxRecDepth 20000 in
theorem gX0_excessOver_X0_reachedFrom : GoodIn wsX0_excessOver (wsV RX0 171 RX0 yX0_reachedFrom wsX0_reachedFrom) := goodIn_app (goodIn_of _ (by decide +kernel)) ggX0_excessOver_X0_reachedFrom
set_option maxRecDepth 20000 in
theorem ggX0_excessOver_X0_contains : GoodIn wsX0_excessOver wsX0_contains := goodIn_r _ [11] (by decide +kernel) (by decide +kernel)
set_option maxRecDepth 20000 in
theorem gX0_excessOver_X0_contains : GoodIn wsX0_excessOver (va_wsS RX0 167 yX0_contains wsX0_contains) := goodIn_app (goodIn_of _ (by decide +kernel)) ggX0_excessOver_X0_contains
theorem dX0_excessOver_0 : decode cX0_excessOver 0 = .ok (.aload_n 0, 1) := by decide +kernel
theorem dX0_excessOver_1 : decode cX0_excessOver 1 = .ok (.iload_n 1, 1) := by decide +kernel
theorem dX0_excessOver_2 : decode cX0_excessOver 2 = .ok (.invokevirtual 171, 3) := by decide +kernel
theorem dX0_excessOver_5 : decode cX0_excessOver 5 = .ok (.istore_n 3, 1) := by decide +kernel
theorem dX0_excessOver_6 : decode cX0_excessOver 6 = .ok (.iconst 0, 1) := by decide +kernel
theorem dX0_excessOver_7 : decode cX0_excessOver 7 = .ok (.istore 4, 2) := by decide +kernel
theorem dX0_excessOver_9 : decode cX0_excessOver 9 = .ok (.iconst 0, 1) := by decide +kernel
theorem dX0_excessOver_10 : decode cX0_excessOver 10 = .ok (.istore 5, 2) := by decide +kernel
theorem dX0_excessOver_12 : decode cX0_excessOver 12 = .ok (.iload 5, 2) := by decide +kernel
theorem dX0_excessOver_14 : decode cX0_excessOver 14 = .ok (.aload_n 0, 1) := by decide +kernel
theorem dX0_excessOver_15 : decode cX0_excessOver 15 = .ok (.getfield 46, 3) := by decide +kernel
theorem dX0_excessOver_18 : decode cX0_excessOver 18 = .ok (.if_icmp .ge 48, 3) := by decide +kernel
theorem dX0_excessOver_21 : decode cX0_excessOver 21 = .ok (.iload_n 1, 1) := by decide +kernel
theorem dX0_excessOver_22 : decode cX0_excessOver 22 = .ok (.iload 5, 2) := by decide +kernel
theorem dX0_excessOver_24 : decode cX0_excessOver 24 = .ok (.invokestatic 167, 3) := by decide +kernel
theorem dX0_excessOver_27 : decode cX0_excessOver 27 = .ok (.ifCond .eq 15, 3) := by decide +kernel
theorem dX0_excessOver_30 : decode cX0_excessOver 30 = .ok (.iload 4, 2) := by decide +kernel
theorem dX0_excessOver_32 : decode cX0_excessOver 32 = .ok (.aload_n 0, 1) := by decide +kernel
theorem dX0_excessOver_33 : decode cX0_excessOver 33 = .ok (.getfield 9, 3) := by decide +kernel
theorem dX0_excessOver_36 : decode cX0_excessOver 36 = .ok (.iload 5, 2) := by decide +kernel
theorem dX0_excessOver_38 : decode cX0_excessOver 38 = .ok (.iaload, 1) := by decide +kernel
theorem dX0_excessOver_39 : decode cX0_excessOver 39 = .ok (.iadd, 1) := by decide +kernel
theorem dX0_excessOver_40 : decode cX0_excessOver 40 = .ok (.istore 4, 2) := by decide +kernel
theorem dX0_excessOver_42 : decode cX0_excessOver 42 = .ok (.iload_n 3, 1) := by decide +kernel
theorem dX0_excessOver_43 : decode cX0_excessOver 43 = .ok (.iload 5, 2) := by decide +kernel
theorem dX0_excessOver_45 : decode cX0_excessOver 45 = .ok (.invokestatic 167, 3) := by decide +kernel
theorem dX0_excessOver_48 : decode cX0_excessOver 48 = .ok (.ifCond .eq 12, 3) := by decide +kernel
theorem dX0_excessOver_51 : decode cX0_excessOver 51 = .ok (.iload 4, 2) := by decide +kernel
theorem dX0_excessOver_53 : decode cX0_excessOver 53 = .ok (.aload_n 2, 1) := by decide +kernel
theorem dX0_excessOver_54 : decode cX0_excessOver 54 = .ok (.iload 5, 2) := by decide +kernel
theorem dX0_excessOver_56 : decode cX0_excessOver 56 = .ok (.iaload, 1) := by decide +kernel
theorem dX0_excessOver_57 : decode cX0_excessOver 57 = .ok (.isub, 1) := by decide +kernel
theorem dX0_excessOver_58 : decode cX0_excessOver 58 = .ok (.istore 4, 2) := by decide +kernel
theorem dX0_excessOver_60 : decode cX0_excessOver 60 = .ok (.iinc 5 1, 3) := by decide +kernel
theorem dX0_excessOver_63 : decode cX0_excessOver 63 = .ok (.goto (-51), 3) := by decide +kernel
theorem dX0_excessOver_66 : decode cX0_excessOver 66 = .ok (.iload 4, 2) := by decide +kernel
theorem dX0_excessOver_68 : decode cX0_excessOver 68 = .ok (.ireturn, 1) := by decide +kernel
set_option maxRecDepth 20000 in
theorem ggX0_fillPossibleTable_X0_isPossible : GoodIn wsX0_fillPossibleTable wsX0_isPossible := goodIn_ca (goodIn_r _ [14, 15, 16, 17, 13, 18, 8, 1, 19, 20, 21, 22, 7, 23, 24, 25, 26, 27, 28, 29, 30, 31, 32, 33, 34, 35, 36, 37, 38, 39, 40, 41, 42, 58, 59, 60, 61, 62, 63, 64, 65, 66, 67, 68] (by decide +kernel) (by decide +kernel)) (goodIn_sub (fun _ h => List.mem_cons_of_mem _ (List.mem_append_right _ h)) (by decide +kernel))
set_option maxRecDepth 20000 in
theorem gX0_fillPossibleTable_X0_isPossible : GoodIn wsX0_fillPossibleTable (wsV RX0 175 RX0 yX0_isPossible wsX0_isPossible) := goodIn_app (goodIn_of _ (by decide +kernel)) ggX0_fillPossibleTable_X0_isPossible
set_option maxRecDepth 20000 in
theorem ggX0_fillPossibleTable_X0_greatestPossible : GoodIn wsX0_fillPossibleTable wsX0_greatestPossible := goodIn_ca (goodIn_r _ [46, 2, 47, 48, 49, 50, 51, 52, 53, 13, 54, 39, 40, 41, 42, 27, 28, 29, 30, 7, 35, 36, 37, 38, 31, 32, 33, 34, 8, 58, 59, 60, 61, 62, 63, 64, 65, 66, 67, 68] (by decide +kernel) (by decide +kernel)) (goodIn_sub (fun _ h => List.mem_cons_of_mem _ (List.mem_append_right _ h)) (by decide +kernel))
set_option maxRecDepth 20000 in
theorem gX0_fillPossibleTable_X0_greatestPossible : GoodIn wsX0_fillPossibleTable (wsV RX0 185 RX0 yX0_greatestPossible wsX0_greatestPossible) := goodIn_app (goodIn_of _ (by decide +kernel)) ggX0_fillPossibleTable_X0_greatestPossible
set_option maxRecDepth 20000 in
theorem ggX0_fillPossibleTable_X0_turn : GoodIn wsX0_fillPossibleTable wsX0_turn := goodIn_r _ [57] (by decide +kernel) (by decide +kernel)
set_option maxRecDepth 20000 in
theorem gX0_fillPossibleTable_X0_turn : GoodIn wsX0_fillPossibleTable (va_wsS RX0 57 yX0_turn wsX0_turn) := goodIn_app (goodIn_of _ (by decide +kernel)) ggX0_fillPossibleTable_X0_turn
theorem dX0_fillPossibleTable_0 : decode cX0_fillPossibleTable 0 = .ok (.aload_n 0, 1) := by decide +kernel
theorem dX0_fillPossibleTable_1 : decode cX0_fillPossibleTable 1 = .ok (.invokevirtual 175, 3) := by decide +kernel
theorem dX0_fillPossibleTable_4 : decode cX0_fillPossibleTable 4 = .ok (.istore_n 1, 1) := by decide +kernel
theorem dX0_fillPossibleTable_5 : decode cX0_fillPossibleTable 5 = .ok (.aload_n 0, 1) := by decide +kernel
theorem dX0_fillPossibleTable_6 : decode cX0_fillPossibleTable 6 = .ok (.getfield 13, 3) := by decide +kernel
theorem dX0_fillPossibleTable_9 : decode cX0_fillPossibleTable 9 = .ok (.iconst 0, 1) := by decide +kernel
theorem dX0_fillPossibleTable_10 : decode cX0_fillPossibleTable 10 = .ok (.aload_n 0, 1) := by decide +kernel
theorem dX0_fillPossibleTable_11 : decode cX0_fillPossibleTable 11 = .ok (.getfield 32, 3) := by decide +kernel
theorem dX0_fillPossibleTable_14 : decode cX0_fillPossibleTable 14 = .ok (.iconst 0, 1) := by decide +kernel
theorem dX0_fillPossibleTable_15 : decode cX0_fillPossibleTable 15 = .ok (.bipush 6, 2) := by decide +kernel
theorem dX0_fillPossibleTable_17 : decode cX0_fillPossibleTable 17 = .ok (.invokestatic 179, 3) := by decide +kernel
theorem dX0_fillPossibleTable_20 : decode cX0_fillPossibleTable 20 = .ok (.iconst 0, 1) := by decide +kernel
theorem dX0_fillPossibleTable_21 : decode cX0_fillPossibleTable 21 = .ok (.istore_n 2, 1) := by decide +kernel
theorem dX0_fillPossibleTable_22 : decode cX0_fillPossibleTable 22 = .ok (.iload_n 2, 1) := by decide +kernel
theorem dX0_fillPossibleTable_23 : decode cX0_fillPossibleTable 23 = .ok (.aload_n 0, 1) := by decide +kernel
theorem dX0_fillPossibleTable_24 : decode cX0_fillPossibleTable 24 = .ok (.getfield 46, 3) := by decide +kernel
theorem dX0_fillPossibleTable_27 : decode cX0_fillPossibleTable 27 = .ok (.if_icmp .ge 86, 3) := by decide +kernel
theorem dX0_fillPossibleTable_30 : decode cX0_fillPossibleTable 30 = .ok (.aload_n 0, 1) := by decide +kernel
theorem dX0_fillPossibleTable_31 : decode cX0_fillPossibleTable 31 = .ok (.getfield 9, 3) := by decide +kernel
theorem dX0_fillPossibleTable_34 : decode cX0_fillPossibleTable 34 = .ok (.iload_n 2, 1) := by decide +kernel
theorem dX0_fillPossibleTable_35 : decode cX0_fillPossibleTable 35 = .ok (.iaload, 1) := by decide +kernel
theorem dX0_fillPossibleTable_36 : decode cX0_fillPossibleTable 36 = .ok (.istore_n 3, 1) := by decide +kernel
theorem dX0_fillPossibleTable_37 : decode cX0_fillPossibleTable 37 = .ok (.iconst 0, 1) := by decide +kernel
theorem dX0_fillPossibleTable_38 : decode cX0_fillPossibleTable 38 = .ok (.istore 4, 2) := by decide +kernel
theorem dX0_fillPossibleTable_40 : decode cX0_fillPossibleTable 40 = .ok (.iload 4, 2) := by decide +kernel
theorem dX0_fillPossibleTable_42 : decode cX0_fillPossibleTable 42 = .ok (.aload_n 0, 1) := by decide +kernel
theorem dX0_fillPossibleTable_43 : decode cX0_fillPossibleTable 43 = .ok (.getfield 46, 3) := by decide +kernel
theorem dX0_fillPossibleTable_46 : decode cX0_fillPossibleTable 46 = .ok (.if_icmp .ge 61, 3) := by decide +kernel
theorem dX0_fillPossibleTable_49 : decode cX0_fillPossibleTable 49 = .ok (.iload_n 1, 1) := by decide +kernel
theorem dX0_fillPossibleTable_50 : decode cX0_fillPossibleTable 50 = .ok (.ifCond .eq 14, 3) := by decide +kernel
theorem dX0_fillPossibleTable_53 : decode cX0_fillPossibleTable 53 = .ok (.aload_n 0, 1) := by decide +kernel
theorem dX0_fillPossibleTable_54 : decode cX0_fillPossibleTable 54 = .ok (.iload_n 2, 1) := by decide +kernel
theorem dX0_fillPossibleTable_55 : decode cX0_fillPossibleTable 55 = .ok (.iload 4, 2) := by decide +kernel
theorem dX0_fillPossibleTable_57 : decode cX0_fillPossibleTable 57 = .ok (.iload_n 3, 1) := by decide +kernel
theorem dX0_fillPossibleTable_58 : decode cX0_fillPossibleTable 58 = .ok (.invokevirtual 185, 3) := by decide +kernel
theorem dX0_fillPossibleTable_61 : decode cX0_fillPossibleTable 61 = .ok (.goto 4, 3) := by decide +kernel
theorem dX0_fillPossibleTable_64 : decode cX0_fillPossibleTable 64 = .ok (.iconst (-1), 1) := by decide +kernel
theorem dX0_fillPossibleTable_65 : decode cX0_fillPossibleTable 65 = .ok (.istore 5, 2) := by decide +kernel
theorem dX0_fillPossibleTable_67 : decode cX0_fillPossibleTable 67 = .ok (.aload_n 0, 1) := by decide +kernel
theorem dX0_fillPossibleTable_68 : decode cX0_fillPossibleTable 68 = .ok (.getfield 29, 3) := by decide +kernel
theorem dX0_fillPossibleTable_71 : decode cX0_fillPossibleTable 71 = .ok (.iload_n 2, 1) := by decide +kernel
theorem dX0_fillPossibleTable_72 : decode cX0_fillPossibleTable 72 = .ok (.iload 4, 2) := by decide +kernel
theorem dX0_fillPossibleTable_74 : decode cX0_fillPossibleTable 74 = .ok (.invokestatic 57, 3) := by decide +kernel
theorem dX0_fillPossibleTable_77 : decode cX0_fillPossibleTable 77 = .ok (.iload 5, 2) := by decide +kernel
theorem dX0_fillPossibleTable_79 : decode cX0_fillPossibleTable 79 = .ok (.iastore, 1) := by decide +kernel
theorem dX0_fillPossibleTable_80 : decode cX0_fillPossibleTable 80 = .ok (.iload_n 1, 1) := by decide +kernel
theorem dX0_fillPossibleTable_81 : decode cX0_fillPossibleTable 81 = .ok (.ifCond .eq 20, 3) := by decide +kernel
theorem dX0_fillPossibleTable_84 : decode cX0_fillPossibleTable 84 = .ok (.iload_n 3, 1) := by decide +kernel
theorem dX0_fillPossibleTable_85 : decode cX0_fillPossibleTable 85 = .ok (.iload 5, 2) := by decide +kernel
theorem dX0_fillPossibleTable_87 : decode cX0_fillPossibleTable 87 = .ok (.isub, 1) := by decide +kernel
theorem dX0_fillPossibleTable_88 : decode cX0_fillPossibleTable 88 = .ok (.istore_n 3, 1) := by decide +kernel
theorem dX0_fillPossibleTable_89 : decode cX0_fillPossibleTable 89 = .ok (.aload_n 0, 1) := by decide +kernel
theorem dX0_fillPossibleTable_90 : decode cX0_fillPossibleTable 90 = .ok (.getfield 32, 3) := by decide +kernel
theorem dX0_fillPossibleTable_93 : decode cX0_fillPossibleTable 93 = .ok (.iload 4, 2) := by decide +kernel
theorem dX0_fillPossibleTable_95 : decode cX0_fillPossibleTable 95 = .ok (.dup2, 1) := by decide +kernel
theorem dX0_fillPossibleTable_96 : decode cX0_fillPossibleTable 96 = .ok (.iaload, 1) := by decide +kernel
theorem dX0_fillPossibleTable_97 : decode cX0_fillPossibleTable 97 = .ok (.iload 5, 2) := by decide +kernel
theorem dX0_fillPossibleTable_99 : decode cX0_fillPossibleTable 99 = .ok (.isub, 1) := by decide +kernel
theorem dX0_fillPossibleTable_100 : decode cX0_fillPossibleTable 100 = .ok (.iastore, 1) := by decide +kernel
theorem dX0_fillPossibleTable_101 : decode cX0_fillPossibleTable 101 = .ok (.iinc 4 1, 3) := by decide +kernel
theorem dX0_fillPossibleTable_104 : decode cX0_fillPossibleTable 104 = .ok (.goto (-64), 3) := by decide +kernel
theorem dX0_fillPossibleTable_107 : decode cX0_fillPossibleTable 107 = .ok (.iinc 2 1, 3) := by decide +kernel
theorem dX0_fillPossibleTable_110 : decode cX0_fillPossibleTable 110 = .ok (.goto (-88), 3) := by decide +kernel
theorem dX0_fillPossibleTable_113 : decode cX0_fillPossibleTable 113 = .ok (.return_, 1) := by decide +kernel
set_option maxRecDepth 20000 in
theorem ggX0_greatestPossible_X0_isOpen : GoodIn wsX0_greatestPossible wsX0_isOpen := goodIn_ca (goodIn_r _ [10, 11, 12, 13, 9, 14, 29, 30, 31, 32, 33, 34, 35, 36, 37, 38, 39] (by decide +kernel) (by decide +kernel)) (goodIn_sub (fun _ h => List.mem_cons_of_mem _ (List.mem_append_right _ h)) (by decide +kernel))
set_option maxRecDepth 20000 in
theorem gX0_greatestPossible_X0_isOpen : GoodIn wsX0_greatestPossible (wsV RX0 189 RX0 yX0_isOpen wsX0_isOpen) := goodIn_app (goodIn_of _ (by decide +kernel)) ggX0_greatestPossible_X0_isOpen
set_option maxRecDepth 20000 in
theorem ggX0_greatestPossible_X0_allArms : GoodIn wsX0_greatestPossible wsX0_allArms := goodIn_r _ [18, 19, 29, 30, 31, 32, 33, 34, 35, 36, 37, 38, 39] (by decide +kernel) (by decide +kernel)
set_option maxRecDepth 20000 in
theorem gX0_greatestPossible_X0_allArms : GoodIn wsX0_greatestPossible (wsV RX0 85 RX0 yX0_allArms wsX0_allArms) := goodIn_app (goodIn_of _ (by decide +kernel)) ggX0_greatestPossible_X0_allArms
set_option maxRecDepth 20000 in
theorem ggX0_greatestPossible_X0_reachedFrom : GoodIn wsX0_greatestPossible wsX0_reachedFrom := goodIn_ca (goodIn_r _ [23, 19, 11, 12, 13, 9, 14, 29, 30, 31, 32, 33, 34, 35, 36, 37, 38, 39] (by decide +kernel) (by decide +kernel)) (goodIn_sub (fun _ h => List.mem_cons_of_mem _ (List.mem_append_right _ h)) (by decide +kernel))
set_option maxRecDepth 20000 in
theorem gX0_greatestPossible_X0_reachedFrom : GoodIn wsX0_greatestPossible (wsV RX0 171 RX0 yX0_reachedFrom wsX0_reachedFrom) := goodIn_app (goodIn_of _ (by decide +kernel)) ggX0_greatestPossible_X0_reachedFrom
set_option maxRecDepth 20000 in
theorem ggX0_greatestPossible_X0_contains : GoodIn wsX0_greatestPossible wsX0_contains := goodIn_r _ [14] (by decide +kernel) (by decide +kernel)
set_option maxRecDepth 20000 in
theorem gX0_greatestPossible_X0_contains : GoodIn wsX0_greatestPossible (va_wsS RX0 167 yX0_contains wsX0_contains) := goodIn_app (goodIn_of _ (by decide +kernel)) ggX0_greatestPossible_X0_contains
set_option maxRecDepth 20000 in
theorem ggX0_greatestPossible_X0_excessOver : GoodIn wsX0_greatestPossible wsX0_excessOver := goodIn_ca (goodIn_r _ [27, 19, 28, 20, 21, 22, 9, 23, 11, 12, 13, 14, 29, 30, 31, 32, 33, 34, 35, 36, 37, 38, 39] (by decide +kernel) (by decide +kernel)) (goodIn_sub (fun _ h => List.mem_cons_of_mem _ (List.mem_append_right _ h)) (by decide +kernel))
set_option maxRecDepth 20000 in
theorem gX0_greatestPossible_X0_excessOver : GoodIn wsX0_greatestPossible (wsV RX0 88 RX0 yX0_excessOver wsX0_excessOver) := goodIn_app (goodIn_of _ (by decide +kernel)) ggX0_greatestPossible_X0_excessOver
theorem dX0_greatestPossible_0 : decode cX0_greatestPossible 0 = .ok (.aload_n 0, 1) := by decide +kernel
theorem dX0_greatestPossible_1 : decode cX0_greatestPossible 1 = .ok (.iload_n 1, 1) := by decide +kernel
theorem dX0_greatestPossible_2 : decode cX0_greatestPossible 2 = .ok (.iload_n 2, 1) := by decide +kernel
theorem dX0_greatestPossible_3 : decode cX0_greatestPossible 3 = .ok (.invokevirtual 189, 3) := by decide +kernel
theorem dX0_greatestPossible_6 : decode cX0_greatestPossible 6 = .ok (.ifCond .ne 5, 3) := by decide +kernel
theorem dX0_greatestPossible_9 : decode cX0_greatestPossible 9 = .ok (.iconst 0, 1) := by decide +kernel
theorem dX0_greatestPossible_10 : decode cX0_greatestPossible 10 = .ok (.ireturn, 1) := by decide +kernel
theorem dX0_greatestPossible_11 : decode cX0_greatestPossible 11 = .ok (.iload_n 3, 1) := by decide +kernel
theorem dX0_greatestPossible_12 : decode cX0_greatestPossible 12 = .ok (.aload_n 0, 1) := by decide +kernel
theorem dX0_greatestPossible_13 : decode cX0_greatestPossible 13 = .ok (.getfield 32, 3) := by decide +kernel
theorem dX0_greatestPossible_16 : decode cX0_greatestPossible 16 = .ok (.iload_n 2, 1) := by decide +kernel
theorem dX0_greatestPossible_17 : decode cX0_greatestPossible 17 = .ok (.iaload, 1) := by decide +kernel
theorem dX0_greatestPossible_18 : decode cX0_greatestPossible 18 = .ok (.invokestatic 192, 3) := by decide +kernel
theorem dX0_greatestPossible_21 : decode cX0_greatestPossible 21 = .ok (.istore 4, 2) := by decide +kernel
theorem dX0_greatestPossible_23 : decode cX0_greatestPossible 23 = .ok (.iconst 2, 1) := by decide +kernel
theorem dX0_greatestPossible_24 : decode cX0_greatestPossible 24 = .ok (.iload_n 1, 1) := by decide +kernel
theorem dX0_greatestPossible_25 : decode cX0_greatestPossible 25 = .ok (.ishl, 1) := by decide +kernel
theorem dX0_greatestPossible_26 : decode cX0_greatestPossible 26 = .ok (.istore 5, 2) := by decide +kernel
theorem dX0_greatestPossible_28 : decode cX0_greatestPossible 28 = .ok (.iload 5, 2) := by decide +kernel
theorem dX0_greatestPossible_30 : decode cX0_greatestPossible 30 = .ok (.istore 6, 2) := by decide +kernel
theorem dX0_greatestPossible_32 : decode cX0_greatestPossible 32 = .ok (.iload 6, 2) := by decide +kernel
theorem dX0_greatestPossible_34 : decode cX0_greatestPossible 34 = .ok (.aload_n 0, 1) := by decide +kernel
theorem dX0_greatestPossible_35 : decode cX0_greatestPossible 35 = .ok (.invokevirtual 85, 3) := by decide +kernel
theorem dX0_greatestPossible_38 : decode cX0_greatestPossible 38 = .ok (.if_icmp .gt 44, 3) := by decide +kernel
theorem dX0_greatestPossible_41 : decode cX0_greatestPossible 41 = .ok (.aload_n 0, 1) := by decide +kernel
theorem dX0_greatestPossible_42 : decode cX0_greatestPossible 42 = .ok (.iload 6, 2) := by decide +kernel
theorem dX0_greatestPossible_44 : decode cX0_greatestPossible 44 = .ok (.invokevirtual 171, 3) := by decide +kernel
theorem dX0_greatestPossible_47 : decode cX0_greatestPossible 47 = .ok (.iload_n 2, 1) := by decide +kernel
theorem dX0_greatestPossible_48 : decode cX0_greatestPossible 48 = .ok (.invokestatic 167, 3) := by decide +kernel
theorem dX0_greatestPossible_51 : decode cX0_greatestPossible 51 = .ok (.ifCond .eq 21, 3) := by decide +kernel
theorem dX0_greatestPossible_54 : decode cX0_greatestPossible 54 = .ok (.iload 4, 2) := by decide +kernel
theorem dX0_greatestPossible_56 : decode cX0_greatestPossible 56 = .ok (.aload_n 0, 1) := by decide +kernel
theorem dX0_greatestPossible_57 : decode cX0_greatestPossible 57 = .ok (.iload 6, 2) := by decide +kernel
theorem dX0_greatestPossible_59 : decode cX0_greatestPossible 59 = .ok (.aload_n 0, 1) := by decide +kernel
theorem dX0_greatestPossible_60 : decode cX0_greatestPossible 60 = .ok (.getfield 32, 3) := by decide +kernel
theorem dX0_greatestPossible_63 : decode cX0_greatestPossible 63 = .ok (.invokevirtual 88, 3) := by decide +kernel
theorem dX0_greatestPossible_66 : decode cX0_greatestPossible 66 = .ok (.ineg, 1) := by decide +kernel
theorem dX0_greatestPossible_67 : decode cX0_greatestPossible 67 = .ok (.invokestatic 192, 3) := by decide +kernel
theorem dX0_greatestPossible_70 : decode cX0_greatestPossible 70 = .ok (.istore 4, 2) := by decide +kernel
theorem dX0_greatestPossible_72 : decode cX0_greatestPossible 72 = .ok (.iload 6, 2) := by decide +kernel
theorem dX0_greatestPossible_74 : decode cX0_greatestPossible 74 = .ok (.iload 5, 2) := by decide +kernel
theorem dX0_greatestPossible_76 : decode cX0_greatestPossible 76 = .ok (.iadd, 1) := by decide +kernel
theorem dX0_greatestPossible_77 : decode cX0_greatestPossible 77 = .ok (.istore 6, 2) := by decide +kernel
theorem dX0_greatestPossible_79 : decode cX0_greatestPossible 79 = .ok (.goto (-47), 3) := by decide +kernel
theorem dX0_greatestPossible_82 : decode cX0_greatestPossible 82 = .ok (.iload 4, 2) := by decide +kernel
theorem dX0_greatestPossible_84 : decode cX0_greatestPossible 84 = .ok (.ireturn, 1) := by decide +kernel
set_option maxRecDepth 20000 in
theorem ggX0_resetEstimate_X0_turn : GoodIn wsX0_resetEstimate wsX0_turn := goodIn_r _ [8] (by decide +kernel) (by decide +kernel)
set_option maxRecDepth 20000 in
theorem gX0_resetEstimate_X0_turn : GoodIn wsX0_resetEstimate (va_wsS RX0 57 yX0_turn wsX0_turn) := goodIn_app (goodIn_of _ (by decide +kernel)) ggX0_resetEstimate_X0_turn
theorem dX0_resetEstimate_0 : decode cX0_resetEstimate 0 = .ok (.iconst 0, 1) := by decide +kernel
theorem dX0_resetEstimate_1 : decode cX0_resetEstimate 1 = .ok (.istore_n 1, 1) := by decide +kernel
theorem dX0_resetEstimate_2 : decode cX0_resetEstimate 2 = .ok (.iload_n 1, 1) := by decide +kernel
theorem dX0_resetEstimate_3 : decode cX0_resetEstimate 3 = .ok (.aload_n 0, 1) := by decide +kernel
theorem dX0_resetEstimate_4 : decode cX0_resetEstimate 4 = .ok (.getfield 46, 3) := by decide +kernel
theorem dX0_resetEstimate_7 : decode cX0_resetEstimate 7 = .ok (.if_icmp .ge 46, 3) := by decide +kernel
theorem dX0_resetEstimate_10 : decode cX0_resetEstimate 10 = .ok (.iconst 0, 1) := by decide +kernel
theorem dX0_resetEstimate_11 : decode cX0_resetEstimate 11 = .ok (.istore_n 2, 1) := by decide +kernel
theorem dX0_resetEstimate_12 : decode cX0_resetEstimate 12 = .ok (.iload_n 2, 1) := by decide +kernel
theorem dX0_resetEstimate_13 : decode cX0_resetEstimate 13 = .ok (.aload_n 0, 1) := by decide +kernel
theorem dX0_resetEstimate_14 : decode cX0_resetEstimate 14 = .ok (.getfield 46, 3) := by decide +kernel
theorem dX0_resetEstimate_17 : decode cX0_resetEstimate 17 = .ok (.if_icmp .ge 30, 3) := by decide +kernel
theorem dX0_resetEstimate_20 : decode cX0_resetEstimate 20 = .ok (.aload_n 0, 1) := by decide +kernel
theorem dX0_resetEstimate_21 : decode cX0_resetEstimate 21 = .ok (.getfield 19, 3) := by decide +kernel
theorem dX0_resetEstimate_24 : decode cX0_resetEstimate 24 = .ok (.iload_n 1, 1) := by decide +kernel
theorem dX0_resetEstimate_25 : decode cX0_resetEstimate 25 = .ok (.iload_n 2, 1) := by decide +kernel
theorem dX0_resetEstimate_26 : decode cX0_resetEstimate 26 = .ok (.invokestatic 57, 3) := by decide +kernel
theorem dX0_resetEstimate_29 : decode cX0_resetEstimate 29 = .ok (.aload_n 0, 1) := by decide +kernel
theorem dX0_resetEstimate_30 : decode cX0_resetEstimate 30 = .ok (.getfield 16, 3) := by decide +kernel
theorem dX0_resetEstimate_33 : decode cX0_resetEstimate 33 = .ok (.iload_n 1, 1) := by decide +kernel
theorem dX0_resetEstimate_34 : decode cX0_resetEstimate 34 = .ok (.iload_n 2, 1) := by decide +kernel
theorem dX0_resetEstimate_35 : decode cX0_resetEstimate 35 = .ok (.invokestatic 57, 3) := by decide +kernel
theorem dX0_resetEstimate_38 : decode cX0_resetEstimate 38 = .ok (.iaload, 1) := by decide +kernel
theorem dX0_resetEstimate_39 : decode cX0_resetEstimate 39 = .ok (.i2d, 1) := by decide +kernel
theorem dX0_resetEstimate_40 : decode cX0_resetEstimate 40 = .ok (.dastore, 1) := by decide +kernel
theorem dX0_resetEstimate_41 : decode cX0_resetEstimate 41 = .ok (.iinc 2 1, 3) := by decide +kernel
theorem dX0_resetEstimate_44 : decode cX0_resetEstimate 44 = .ok (.goto (-32), 3) := by decide +kernel
theorem dX0_resetEstimate_47 : decode cX0_resetEstimate 47 = .ok (.iinc 1 1, 3) := by decide +kernel
theorem dX0_resetEstimate_50 : decode cX0_resetEstimate 50 = .ok (.goto (-48), 3) := by decide +kernel
theorem dX0_resetEstimate_53 : decode cX0_resetEstimate 53 = .ok (.aload_n 0, 1) := by decide +kernel
theorem dX0_resetEstimate_54 : decode cX0_resetEstimate 54 = .ok (.iconst 0, 1) := by decide +kernel
theorem dX0_resetEstimate_55 : decode cX0_resetEstimate 55 = .ok (.putfield 95, 3) := by decide +kernel
theorem dX0_resetEstimate_58 : decode cX0_resetEstimate 58 = .ok (.return_, 1) := by decide +kernel
set_option maxRecDepth 20000 in
theorem ggX0_rowSum_X0_turn : GoodIn wsX0_rowSum wsX0_turn := goodIn_r _ [6] (by decide +kernel) (by decide +kernel)
set_option maxRecDepth 20000 in
theorem gX0_rowSum_X0_turn : GoodIn wsX0_rowSum (va_wsS RX0 57 yX0_turn wsX0_turn) := goodIn_app (goodIn_of _ (by decide +kernel)) ggX0_rowSum_X0_turn
theorem dX0_rowSum_0 : decode cX0_rowSum 0 = .ok (.dconst 0, 1) := by decide +kernel
theorem dX0_rowSum_1 : decode cX0_rowSum 1 = .ok (.dstore_n 2, 1) := by decide +kernel
theorem dX0_rowSum_2 : decode cX0_rowSum 2 = .ok (.iconst 0, 1) := by decide +kernel
theorem dX0_rowSum_3 : decode cX0_rowSum 3 = .ok (.istore 4, 2) := by decide +kernel
theorem dX0_rowSum_5 : decode cX0_rowSum 5 = .ok (.iload 4, 2) := by decide +kernel
theorem dX0_rowSum_7 : decode cX0_rowSum 7 = .ok (.aload_n 0, 1) := by decide +kernel
theorem dX0_rowSum_8 : decode cX0_rowSum 8 = .ok (.getfield 46, 3) := by decide +kernel
theorem dX0_rowSum_11 : decode cX0_rowSum 11 = .ok (.if_icmp .ge 23, 3) := by decide +kernel
theorem dX0_rowSum_14 : decode cX0_rowSum 14 = .ok (.dload_n 2, 1) := by decide +kernel
theorem dX0_rowSum_15 : decode cX0_rowSum 15 = .ok (.aload_n 0, 1) := by decide +kernel
theorem dX0_rowSum_16 : decode cX0_rowSum 16 = .ok (.getfield 19, 3) := by decide +kernel
theorem dX0_rowSum_19 : decode cX0_rowSum 19 = .ok (.iload_n 1, 1) := by decide +kernel
theorem dX0_rowSum_20 : decode cX0_rowSum 20 = .ok (.iload 4, 2) := by decide +kernel
theorem dX0_rowSum_22 : decode cX0_rowSum 22 = .ok (.invokestatic 57, 3) := by decide +kernel
theorem dX0_rowSum_25 : decode cX0_rowSum 25 = .ok (.daload, 1) := by decide +kernel
theorem dX0_rowSum_26 : decode cX0_rowSum 26 = .ok (.dadd, 1) := by decide +kernel
theorem dX0_rowSum_27 : decode cX0_rowSum 27 = .ok (.dstore_n 2, 1) := by decide +kernel
theorem dX0_rowSum_28 : decode cX0_rowSum 28 = .ok (.iinc 4 1, 3) := by decide +kernel
theorem dX0_rowSum_31 : decode cX0_rowSum 31 = .ok (.goto (-26), 3) := by decide +kernel
theorem dX0_rowSum_34 : decode cX0_rowSum 34 = .ok (.dload_n 2, 1) := by decide +kernel
theorem dX0_rowSum_35 : decode cX0_rowSum 35 = .ok (.dreturn, 1) := by decide +kernel
set_option maxRecDepth 20000 in
theorem ggX0_columnSum_X0_turn : GoodIn wsX0_columnSum wsX0_turn := goodIn_r _ [6] (by decide +kernel) (by decide +kernel)
set_option maxRecDepth 20000 in
theorem gX0_columnSum_X0_turn : GoodIn wsX0_columnSum (va_wsS RX0 57 yX0_turn wsX0_turn) := goodIn_app (goodIn_of _ (by decide +kernel)) ggX0_columnSum_X0_turn
theorem dX0_columnSum_0 : decode cX0_columnSum 0 = .ok (.dconst 0, 1) := by decide +kernel
theorem dX0_columnSum_1 : decode cX0_columnSum 1 = .ok (.dstore_n 2, 1) := by decide +kernel
theorem dX0_columnSum_2 : decode cX0_columnSum 2 = .ok (.iconst 0, 1) := by decide +kernel
theorem dX0_columnSum_3 : decode cX0_columnSum 3 = .ok (.istore 4, 2) := by decide +kernel
theorem dX0_columnSum_5 : decode cX0_columnSum 5 = .ok (.iload 4, 2) := by decide +kernel
theorem dX0_columnSum_7 : decode cX0_columnSum 7 = .ok (.aload_n 0, 1) := by decide +kernel
theorem dX0_columnSum_8 : decode cX0_columnSum 8 = .ok (.getfield 46, 3) := by decide +kernel
theorem dX0_columnSum_11 : decode cX0_columnSum 11 = .ok (.if_icmp .ge 23, 3) := by decide +kernel
theorem dX0_columnSum_14 : decode cX0_columnSum 14 = .ok (.dload_n 2, 1) := by decide +kernel
theorem dX0_columnSum_15 : decode cX0_columnSum 15 = .ok (.aload_n 0, 1) := by decide +kernel
theorem dX0_columnSum_16 : decode cX0_columnSum 16 = .ok (.getfield 19, 3) := by decide +kernel
theorem dX0_columnSum_19 : decode cX0_columnSum 19 = .ok (.iload 4, 2) := by decide +kernel
theorem dX0_columnSum_21 : decode cX0_columnSum 21 = .ok (.iload_n 1, 1) := by decide +kernel
theorem dX0_columnSum_22 : decode cX0_columnSum 22 = .ok (.invokestatic 57, 3) := by decide +kernel
theorem dX0_columnSum_25 : decode cX0_columnSum 25 = .ok (.daload, 1) := by decide +kernel
theorem dX0_columnSum_26 : decode cX0_columnSum 26 = .ok (.dadd, 1) := by decide +kernel
theorem dX0_columnSum_27 : decode cX0_columnSum 27 = .ok (.dstore_n 2, 1) := by decide +kernel
theorem dX0_columnSum_28 : decode cX0_columnSum 28 = .ok (.iinc 4 1, 3) := by decide +kernel
theorem dX0_columnSum_31 : decode cX0_columnSum 31 = .ok (.goto (-26), 3) := by decide +kernel
theorem dX0_columnSum_34 : decode cX0_columnSum 34 = .ok (.dload_n 2, 1) := by decide +kernel
theorem dX0_columnSum_35 : decode cX0_columnSum 35 = .ok (.dreturn, 1) := by decide +kernel
set_option maxRecDepth 20000 in
theorem ggX0_carryOutRound_X0_carryOutRowStep : GoodIn wsX0_carryOutRound wsX0_carryOutRowStep := goodIn_ca (goodIn_r _ [7, 8, 1, 9, 10, 11, 12, 6, 13, 14, 15, 16, 26, 27, 28, 29, 30, 31, 32, 33, 34, 35, 36] (by decide +kernel) (by decide +kernel)) (goodIn_sub (fun _ h => List.mem_cons_of_mem _ (List.mem_append_right _ h)) (by decide +kernel))
set_option maxRecDepth 20000 in
theorem gX0_carryOutRound_X0_carryOutRowStep : GoodIn wsX0_carryOutRound (wsV RX0 197 RX0 yX0_carryOutRowStep wsX0_carryOutRowStep) := goodIn_app (goodIn_of _ (by decide +kernel)) ggX0_carryOutRound_X0_carryOutRowStep
set_option maxRecDepth 20000 in
theorem ggX0_carryOutRound_X0_carryOutColumnStep : GoodIn wsX0_carryOutRound wsX0_carryOutColumnStep := goodIn_ca (goodIn_r _ [20, 21, 1, 9, 22, 23, 24, 6, 25, 14, 15, 16, 26, 27, 28, 29, 30, 31, 32, 33, 34, 35, 36] (by decide +kernel) (by decide +kernel)) (goodIn_sub (fun _ h => List.mem_cons_of_mem _ (List.mem_append_right _ h)) (by decide +kernel))
set_option maxRecDepth 20000 in
theorem gX0_carryOutRound_X0_carryOutColumnStep : GoodIn wsX0_carryOutRound (wsV RX0 200 RX0 yX0_carryOutColumnStep wsX0_carryOutColumnStep) := goodIn_app (goodIn_of _ (by decide +kernel)) ggX0_carryOutRound_X0_carryOutColumnStep
theorem dX0_carryOutRound_0 : decode cX0_carryOutRound 0 = .ok (.iconst 0, 1) := by decide +kernel
theorem dX0_carryOutRound_1 : decode cX0_carryOutRound 1 = .ok (.istore_n 1, 1) := by decide +kernel
theorem dX0_carryOutRound_2 : decode cX0_carryOutRound 2 = .ok (.iload_n 1, 1) := by decide +kernel
theorem dX0_carryOutRound_3 : decode cX0_carryOutRound 3 = .ok (.aload_n 0, 1) := by decide +kernel
theorem dX0_carryOutRound_4 : decode cX0_carryOutRound 4 = .ok (.getfield 46, 3) := by decide +kernel
theorem dX0_carryOutRound_7 : decode cX0_carryOutRound 7 = .ok (.if_icmp .ge 14, 3) := by decide +kernel
theorem dX0_carryOutRound_10 : decode cX0_carryOutRound 10 = .ok (.aload_n 0, 1) := by decide +kernel
theorem dX0_carryOutRound_11 : decode cX0_carryOutRound 11 = .ok (.iload_n 1, 1) := by decide +kernel
theorem dX0_carryOutRound_12 : decode cX0_carryOutRound 12 = .ok (.invokevirtual 197, 3) := by decide +kernel
theorem dX0_carryOutRound_15 : decode cX0_carryOutRound 15 = .ok (.iinc 1 1, 3) := by decide +kernel
theorem dX0_carryOutRound_18 : decode cX0_carryOutRound 18 = .ok (.goto (-16), 3) := by decide +kernel
theorem dX0_carryOutRound_21 : decode cX0_carryOutRound 21 = .ok (.iconst 0, 1) := by decide +kernel
theorem dX0_carryOutRound_22 : decode cX0_carryOutRound 22 = .ok (.istore_n 1, 1) := by decide +kernel
theorem dX0_carryOutRound_23 : decode cX0_carryOutRound 23 = .ok (.iload_n 1, 1) := by decide +kernel
theorem dX0_carryOutRound_24 : decode cX0_carryOutRound 24 = .ok (.aload_n 0, 1) := by decide +kernel
theorem dX0_carryOutRound_25 : decode cX0_carryOutRound 25 = .ok (.getfield 46, 3) := by decide +kernel
theorem dX0_carryOutRound_28 : decode cX0_carryOutRound 28 = .ok (.if_icmp .ge 14, 3) := by decide +kernel
theorem dX0_carryOutRound_31 : decode cX0_carryOutRound 31 = .ok (.aload_n 0, 1) := by decide +kernel
theorem dX0_carryOutRound_32 : decode cX0_carryOutRound 32 = .ok (.iload_n 1, 1) := by decide +kernel
theorem dX0_carryOutRound_33 : decode cX0_carryOutRound 33 = .ok (.invokevirtual 200, 3) := by decide +kernel
theorem dX0_carryOutRound_36 : decode cX0_carryOutRound 36 = .ok (.iinc 1 1, 3) := by decide +kernel
theorem dX0_carryOutRound_39 : decode cX0_carryOutRound 39 = .ok (.goto (-16), 3) := by decide +kernel
theorem dX0_carryOutRound_42 : decode cX0_carryOutRound 42 = .ok (.aload_n 0, 1) := by decide +kernel
theorem dX0_carryOutRound_43 : decode cX0_carryOutRound 43 = .ok (.dup, 1) := by decide +kernel
theorem dX0_carryOutRound_44 : decode cX0_carryOutRound 44 = .ok (.getfield 95, 3) := by decide +kernel
theorem dX0_carryOutRound_47 : decode cX0_carryOutRound 47 = .ok (.iconst 1, 1) := by decide +kernel
theorem dX0_carryOutRound_48 : decode cX0_carryOutRound 48 = .ok (.iadd, 1) := by decide +kernel
theorem dX0_carryOutRound_49 : decode cX0_carryOutRound 49 = .ok (.putfield 95, 3) := by decide +kernel
theorem dX0_carryOutRound_52 : decode cX0_carryOutRound 52 = .ok (.return_, 1) := by decide +kernel
set_option maxRecDepth 20000 in
theorem ggX0_carryOutRowStep_X0_rowSum : GoodIn wsX0_carryOutRowStep wsX0_rowSum := goodIn_ca (goodIn_r _ [8, 2, 3, 9, 10, 7, 11, 12, 13, 14, 15, 16, 17, 18, 19, 20, 21, 22] (by decide +kernel) (by decide +kernel)) (goodIn_sub (fun _ h => List.mem_cons_of_mem _ (List.mem_append_right _ h)) (by decide +kernel))
set_option maxRecDepth 20000 in
theorem gX0_carryOutRowStep_X0_rowSum : GoodIn wsX0_carryOutRowStep (wsV RX0 109 RX0 yX0_rowSum wsX0_rowSum) := goodIn_app (goodIn_of _ (by decide +kernel)) ggX0_carryOutRowStep_X0_rowSum
set_option maxRecDepth 20000 in
theorem ggX0_carryOutRowStep_X0_turn : GoodIn wsX0_carryOutRowStep wsX0_turn := goodIn_r _ [11] (by decide +kernel) (by decide +kernel)
set_option maxRecDepth 20000 in
theorem gX0_carryOutRowStep_X0_turn : GoodIn wsX0_carryOutRowStep (va_wsS RX0 57 yX0_turn wsX0_turn) := goodIn_app (goodIn_of _ (by decide +kernel)) ggX0_carryOutRowStep_X0_turn
theorem dX0_carryOutRowStep_0 : decode cX0_carryOutRowStep 0 = .ok (.aload_n 0, 1) := by decide +kernel
theorem dX0_carryOutRowStep_1 : decode cX0_carryOutRowStep 1 = .ok (.iload_n 1, 1) := by decide +kernel
theorem dX0_carryOutRowStep_2 : decode cX0_carryOutRowStep 2 = .ok (.invokevirtual 109, 3) := by decide +kernel
theorem dX0_carryOutRowStep_5 : decode cX0_carryOutRowStep 5 = .ok (.dstore_n 2, 1) := by decide +kernel
theorem dX0_carryOutRowStep_6 : decode cX0_carryOutRowStep 6 = .ok (.dload_n 2, 1) := by decide +kernel
theorem dX0_carryOutRowStep_7 : decode cX0_carryOutRowStep 7 = .ok (.dconst 0, 1) := by decide +kernel
theorem dX0_carryOutRowStep_8 : decode cX0_carryOutRowStep 8 = .ok (.dcmp .l, 1) := by decide +kernel
theorem dX0_carryOutRowStep_9 : decode cX0_carryOutRowStep 9 = .ok (.ifCond .le 48, 3) := by decide +kernel
theorem dX0_carryOutRowStep_12 : decode cX0_carryOutRowStep 12 = .ok (.aload_n 0, 1) := by decide +kernel
theorem dX0_carryOutRowStep_13 : decode cX0_carryOutRowStep 13 = .ok (.getfield 9, 3) := by decide +kernel
theorem dX0_carryOutRowStep_16 : decode cX0_carryOutRowStep 16 = .ok (.iload_n 1, 1) := by decide +kernel
theorem dX0_carryOutRowStep_17 : decode cX0_carryOutRowStep 17 = .ok (.iaload, 1) := by decide +kernel
theorem dX0_carryOutRowStep_18 : decode cX0_carryOutRowStep 18 = .ok (.i2d, 1) := by decide +kernel
theorem dX0_carryOutRowStep_19 : decode cX0_carryOutRowStep 19 = .ok (.dload_n 2, 1) := by decide +kernel
theorem dX0_carryOutRowStep_20 : decode cX0_carryOutRowStep 20 = .ok (.ddiv, 1) := by decide +kernel
theorem dX0_carryOutRowStep_21 : decode cX0_carryOutRowStep 21 = .ok (.dstore 4, 2) := by decide +kernel
theorem dX0_carryOutRowStep_23 : decode cX0_carryOutRowStep 23 = .ok (.iconst 0, 1) := by decide +kernel
theorem dX0_carryOutRowStep_24 : decode cX0_carryOutRowStep 24 = .ok (.istore 6, 2) := by decide +kernel
theorem dX0_carryOutRowStep_26 : decode cX0_carryOutRowStep 26 = .ok (.iload 6, 2) := by decide +kernel
theorem dX0_carryOutRowStep_28 : decode cX0_carryOutRowStep 28 = .ok (.aload_n 0, 1) := by decide +kernel
theorem dX0_carryOutRowStep_29 : decode cX0_carryOutRowStep 29 = .ok (.getfield 46, 3) := by decide +kernel
theorem dX0_carryOutRowStep_32 : decode cX0_carryOutRowStep 32 = .ok (.if_icmp .ge 25, 3) := by decide +kernel
theorem dX0_carryOutRowStep_35 : decode cX0_carryOutRowStep 35 = .ok (.aload_n 0, 1) := by decide +kernel
theorem dX0_carryOutRowStep_36 : decode cX0_carryOutRowStep 36 = .ok (.getfield 19, 3) := by decide +kernel
theorem dX0_carryOutRowStep_39 : decode cX0_carryOutRowStep 39 = .ok (.iload_n 1, 1) := by decide +kernel
theorem dX0_carryOutRowStep_40 : decode cX0_carryOutRowStep 40 = .ok (.iload 6, 2) := by decide +kernel
theorem dX0_carryOutRowStep_42 : decode cX0_carryOutRowStep 42 = .ok (.invokestatic 57, 3) := by decide +kernel
theorem dX0_carryOutRowStep_45 : decode cX0_carryOutRowStep 45 = .ok (.dup2, 1) := by decide +kernel
theorem dX0_carryOutRowStep_46 : decode cX0_carryOutRowStep 46 = .ok (.daload, 1) := by decide +kernel
theorem dX0_carryOutRowStep_47 : decode cX0_carryOutRowStep 47 = .ok (.dload 4, 2) := by decide +kernel
theorem dX0_carryOutRowStep_49 : decode cX0_carryOutRowStep 49 = .ok (.dmul, 1) := by decide +kernel
theorem dX0_carryOutRowStep_50 : decode cX0_carryOutRowStep 50 = .ok (.dastore, 1) := by decide +kernel
theorem dX0_carryOutRowStep_51 : decode cX0_carryOutRowStep 51 = .ok (.iinc 6 1, 3) := by decide +kernel
theorem dX0_carryOutRowStep_54 : decode cX0_carryOutRowStep 54 = .ok (.goto (-28), 3) := by decide +kernel
theorem dX0_carryOutRowStep_57 : decode cX0_carryOutRowStep 57 = .ok (.return_, 1) := by decide +kernel
set_option maxRecDepth 20000 in
theorem ggX0_carryOutColumnStep_X0_columnSum : GoodIn wsX0_carryOutColumnStep wsX0_columnSum := goodIn_ca (goodIn_r _ [8, 2, 3, 9, 10, 7, 11, 12, 13, 14, 15, 16, 17, 18, 19, 20, 21, 22] (by decide +kernel) (by decide +kernel)) (goodIn_sub (fun _ h => List.mem_cons_of_mem _ (List.mem_append_right _ h)) (by decide +kernel))
set_option maxRecDepth 20000 in
theorem gX0_carryOutColumnStep_X0_columnSum : GoodIn wsX0_carryOutColumnStep (wsV RX0 105 RX0 yX0_columnSum wsX0_columnSum) := goodIn_app (goodIn_of _ (by decide +kernel)) ggX0_carryOutColumnStep_X0_columnSum
set_option maxRecDepth 20000 in
theorem ggX0_carryOutColumnStep_X0_turn : GoodIn wsX0_carryOutColumnStep wsX0_turn := goodIn_r _ [11] (by decide +kernel) (by decide +kernel)
set_option maxRecDepth 20000 in
theorem gX0_carryOutColumnStep_X0_turn : GoodIn wsX0_carryOutColumnStep (va_wsS RX0 57 yX0_turn wsX0_turn) := goodIn_app (goodIn_of _ (by decide +kernel)) ggX0_carryOutColumnStep_X0_turn
theorem dX0_carryOutColumnStep_0 : decode cX0_carryOutColumnStep 0 = .ok (.aload_n 0, 1) := by decide +kernel
theorem dX0_carryOutColumnStep_1 : decode cX0_carryOutColumnStep 1 = .ok (.iload_n 1, 1) := by decide +kernel
theorem dX0_carryOutColumnStep_2 : decode cX0_carryOutColumnStep 2 = .ok (.invokevirtual 105, 3) := by decide +kernel
theorem dX0_carryOutColumnStep_5 : decode cX0_carryOutColumnStep 5 = .ok (.dstore_n 2, 1) := by decide +kernel
theorem dX0_carryOutColumnStep_6 : decode cX0_carryOutColumnStep 6 = .ok (.dload_n 2, 1) := by decide +kernel
theorem dX0_carryOutColumnStep_7 : decode cX0_carryOutColumnStep 7 = .ok (.dconst 0, 1) := by decide +kernel
theorem dX0_carryOutColumnStep_8 : decode cX0_carryOutColumnStep 8 = .ok (.dcmp .l, 1) := by decide +kernel
theorem dX0_carryOutColumnStep_9 : decode cX0_carryOutColumnStep 9 = .ok (.ifCond .le 48, 3) := by decide +kernel
theorem dX0_carryOutColumnStep_12 : decode cX0_carryOutColumnStep 12 = .ok (.aload_n 0, 1) := by decide +kernel
theorem dX0_carryOutColumnStep_13 : decode cX0_carryOutColumnStep 13 = .ok (.getfield 13, 3) := by decide +kernel
theorem dX0_carryOutColumnStep_16 : decode cX0_carryOutColumnStep 16 = .ok (.iload_n 1, 1) := by decide +kernel
theorem dX0_carryOutColumnStep_17 : decode cX0_carryOutColumnStep 17 = .ok (.iaload, 1) := by decide +kernel
theorem dX0_carryOutColumnStep_18 : decode cX0_carryOutColumnStep 18 = .ok (.i2d, 1) := by decide +kernel
theorem dX0_carryOutColumnStep_19 : decode cX0_carryOutColumnStep 19 = .ok (.dload_n 2, 1) := by decide +kernel
theorem dX0_carryOutColumnStep_20 : decode cX0_carryOutColumnStep 20 = .ok (.ddiv, 1) := by decide +kernel
theorem dX0_carryOutColumnStep_21 : decode cX0_carryOutColumnStep 21 = .ok (.dstore 4, 2) := by decide +kernel
theorem dX0_carryOutColumnStep_23 : decode cX0_carryOutColumnStep 23 = .ok (.iconst 0, 1) := by decide +kernel
theorem dX0_carryOutColumnStep_24 : decode cX0_carryOutColumnStep 24 = .ok (.istore 6, 2) := by decide +kernel
theorem dX0_carryOutColumnStep_26 : decode cX0_carryOutColumnStep 26 = .ok (.iload 6, 2) := by decide +kernel
theorem dX0_carryOutColumnStep_28 : decode cX0_carryOutColumnStep 28 = .ok (.aload_n 0, 1) := by decide +kernel
theorem dX0_carryOutColumnStep_29 : decode cX0_carryOutColumnStep 29 = .ok (.getfield 46, 3) := by decide +kernel
theorem dX0_carryOutColumnStep_32 : decode cX0_carryOutColumnStep 32 = .ok (.if_icmp .ge 25, 3) := by decide +kernel
theorem dX0_carryOutColumnStep_35 : decode cX0_carryOutColumnStep 35 = .ok (.aload_n 0, 1) := by decide +kernel
theorem dX0_carryOutColumnStep_36 : decode cX0_carryOutColumnStep 36 = .ok (.getfield 19, 3) := by decide +kernel
theorem dX0_carryOutColumnStep_39 : decode cX0_carryOutColumnStep 39 = .ok (.iload 6, 2) := by decide +kernel
theorem dX0_carryOutColumnStep_41 : decode cX0_carryOutColumnStep 41 = .ok (.iload_n 1, 1) := by decide +kernel
theorem dX0_carryOutColumnStep_42 : decode cX0_carryOutColumnStep 42 = .ok (.invokestatic 57, 3) := by decide +kernel
theorem dX0_carryOutColumnStep_45 : decode cX0_carryOutColumnStep 45 = .ok (.dup2, 1) := by decide +kernel
theorem dX0_carryOutColumnStep_46 : decode cX0_carryOutColumnStep 46 = .ok (.daload, 1) := by decide +kernel
theorem dX0_carryOutColumnStep_47 : decode cX0_carryOutColumnStep 47 = .ok (.dload 4, 2) := by decide +kernel
theorem dX0_carryOutColumnStep_49 : decode cX0_carryOutColumnStep 49 = .ok (.dmul, 1) := by decide +kernel
theorem dX0_carryOutColumnStep_50 : decode cX0_carryOutColumnStep 50 = .ok (.dastore, 1) := by decide +kernel
theorem dX0_carryOutColumnStep_51 : decode cX0_carryOutColumnStep 51 = .ok (.iinc 6 1, 3) := by decide +kernel
theorem dX0_carryOutColumnStep_54 : decode cX0_carryOutColumnStep 54 = .ok (.goto (-28), 3) := by decide +kernel
theorem dX0_carryOutColumnStep_57 : decode cX0_carryOutColumnStep 57 = .ok (.return_, 1) := by decide +kernel
theorem dX0_distance_0 : decode cX0_distance 0 = .ok (.dload_n 0, 1) := by decide +kernel
theorem dX0_distance_1 : decode cX0_distance 1 = .ok (.dload_n 2, 1) := by decide +kernel
theorem dX0_distance_2 : decode cX0_distance 2 = .ok (.dsub, 1) := by decide +kernel
theorem dX0_distance_3 : decode cX0_distance 3 = .ok (.dstore 4, 2) := by decide +kernel
theorem dX0_distance_5 : decode cX0_distance 5 = .ok (.dload 4, 2) := by decide +kernel
theorem dX0_distance_7 : decode cX0_distance 7 = .ok (.dconst 0, 1) := by decide +kernel
theorem dX0_distance_8 : decode cX0_distance 8 = .ok (.dcmp .g, 1) := by decide +kernel
theorem dX0_distance_9 : decode cX0_distance 9 = .ok (.ifCond .ge 9, 3) := by decide +kernel
theorem dX0_distance_12 : decode cX0_distance 12 = .ok (.dload 4, 2) := by decide +kernel
theorem dX0_distance_14 : decode cX0_distance 14 = .ok (.dneg, 1) := by decide +kernel
theorem dX0_distance_15 : decode cX0_distance 15 = .ok (.goto 5, 3) := by decide +kernel
theorem dX0_distance_18 : decode cX0_distance 18 = .ok (.dload 4, 2) := by decide +kernel
theorem dX0_distance_20 : decode cX0_distance 20 = .ok (.dreturn, 1) := by decide +kernel
set_option maxRecDepth 20000 in
theorem ggX0_roundAllRows_X0_roundRow : GoodIn wsX0_roundAllRows wsX0_roundRow := goodIn_ca (goodIn_r _ [6, 1, 7, 8, 9, 10, 11, 12, 13, 5, 14, 15, 16, 17, 18, 19, 20, 21, 22, 23, 24, 25, 26, 27, 28, 29, 30, 31, 32, 33, 34, 35, 36, 37, 38, 39, 40, 41, 42, 43, 44, 45, 46, 47, 48, 49] (by decide +kernel) (by decide +kernel)) (goodIn_sub (fun _ h => List.mem_cons_of_mem _ (List.mem_append_right _ h)) (by decide +kernel))
set_option maxRecDepth 20000 in
theorem gX0_roundAllRows_X0_roundRow : GoodIn wsX0_roundAllRows (wsV RX0 123 RX0 yX0_roundRow wsX0_roundRow) := goodIn_app (goodIn_of _ (by decide +kernel)) ggX0_roundAllRows_X0_roundRow
theorem dX0_roundAllRows_0 : decode cX0_roundAllRows 0 = .ok (.iconst 0, 1) := by decide +kernel
theorem dX0_roundAllRows_1 : decode cX0_roundAllRows 1 = .ok (.istore_n 1, 1) := by decide +kernel
theorem dX0_roundAllRows_2 : decode cX0_roundAllRows 2 = .ok (.iload_n 1, 1) := by decide +kernel
theorem dX0_roundAllRows_3 : decode cX0_roundAllRows 3 = .ok (.aload_n 0, 1) := by decide +kernel
theorem dX0_roundAllRows_4 : decode cX0_roundAllRows 4 = .ok (.getfield 46, 3) := by decide +kernel
theorem dX0_roundAllRows_7 : decode cX0_roundAllRows 7 = .ok (.if_icmp .ge 14, 3) := by decide +kernel
theorem dX0_roundAllRows_10 : decode cX0_roundAllRows 10 = .ok (.aload_n 0, 1) := by decide +kernel
theorem dX0_roundAllRows_11 : decode cX0_roundAllRows 11 = .ok (.iload_n 1, 1) := by decide +kernel
theorem dX0_roundAllRows_12 : decode cX0_roundAllRows 12 = .ok (.invokevirtual 123, 3) := by decide +kernel
theorem dX0_roundAllRows_15 : decode cX0_roundAllRows 15 = .ok (.iinc 1 1, 3) := by decide +kernel
theorem dX0_roundAllRows_18 : decode cX0_roundAllRows 18 = .ok (.goto (-16), 3) := by decide +kernel
theorem dX0_roundAllRows_21 : decode cX0_roundAllRows 21 = .ok (.return_, 1) := by decide +kernel
set_option maxRecDepth 20000 in
theorem ggX0_roundRow_X0_rowSum : GoodIn wsX0_roundRow wsX0_rowSum := goodIn_ca (goodIn_r _ [10, 1, 2, 11, 12, 9, 13, 35, 36, 37, 38, 39, 40, 41, 42, 43, 44, 45] (by decide +kernel) (by decide +kernel)) (goodIn_sub (fun _ h => List.mem_cons_of_mem _ (List.mem_append_right _ h)) (by decide +kernel))
set_option maxRecDepth 20000 in
theorem gX0_roundRow_X0_rowSum : GoodIn wsX0_roundRow (wsV RX0 109 RX0 yX0_rowSum wsX0_rowSum) := goodIn_app (goodIn_of _ (by decide +kernel)) ggX0_roundRow_X0_rowSum
set_option maxRecDepth 20000 in
theorem ggX0_roundRow_X0_turn : GoodIn wsX0_roundRow wsX0_turn := goodIn_r _ [13] (by decide +kernel) (by decide +kernel)
set_option maxRecDepth 20000 in
theorem gX0_roundRow_X0_turn : GoodIn wsX0_roundRow (va_wsS RX0 57 yX0_turn wsX0_turn) := goodIn_app (goodIn_of _ (by decide +kernel)) ggX0_roundRow_X0_turn
set_option maxRecDepth 20000 in
theorem ggX0_roundRow_X0_raiseGreatestFractions : GoodIn wsX0_roundRow wsX0_raiseGreatestFractions := goodIn_ca (goodIn_r _ [17, 1, 18, 19, 20, 21, 4, 5, 22, 23, 24, 25, 9, 26, 27, 28, 29, 30, 31, 32, 33, 34, 11, 12, 13, 35, 36, 37, 38, 39, 40, 41, 42, 43, 44, 45] (by decide +kernel) (by decide +kernel)) (goodIn_sub (fun _ h => List.mem_cons_of_mem _ (List.mem_append_right _ h)) (by decide +kernel))
set_option maxRecDepth 20000 in
theorem gX0_roundRow_X0_raiseGreatestFractions : GoodIn wsX0_roundRow (wsV RX0 203 RX0 yX0_raiseGreatestFractions wsX0_raiseGreatestFractions) := goodIn_app (goodIn_of _ (by decide +kernel)) ggX0_roundRow_X0_raiseGreatestFractions
theorem dX0_roundRow_0 : decode cX0_roundRow 0 = .ok (.aload_n 0, 1) := by decide +kernel
theorem dX0_roundRow_1 : decode cX0_roundRow 1 = .ok (.iload_n 1, 1) := by decide +kernel
theorem dX0_roundRow_2 : decode cX0_roundRow 2 = .ok (.invokevirtual 109, 3) := by decide +kernel
theorem dX0_roundRow_5 : decode cX0_roundRow 5 = .ok (.dstore_n 2, 1) := by decide +kernel
theorem dX0_roundRow_6 : decode cX0_roundRow 6 = .ok (.iconst 0, 1) := by decide +kernel
theorem dX0_roundRow_7 : decode cX0_roundRow 7 = .ok (.istore 4, 2) := by decide +kernel
theorem dX0_roundRow_9 : decode cX0_roundRow 9 = .ok (.iconst 0, 1) := by decide +kernel
theorem dX0_roundRow_10 : decode cX0_roundRow 10 = .ok (.istore 5, 2) := by decide +kernel
theorem dX0_roundRow_12 : decode cX0_roundRow 12 = .ok (.iload 5, 2) := by decide +kernel
theorem dX0_roundRow_14 : decode cX0_roundRow 14 = .ok (.aload_n 0, 1) := by decide +kernel
theorem dX0_roundRow_15 : decode cX0_roundRow 15 = .ok (.getfield 46, 3) := by decide +kernel
theorem dX0_roundRow_18 : decode cX0_roundRow 18 = .ok (.if_icmp .ge 80, 3) := by decide +kernel
theorem dX0_roundRow_21 : decode cX0_roundRow 21 = .ok (.dload_n 2, 1) := by decide +kernel
theorem dX0_roundRow_22 : decode cX0_roundRow 22 = .ok (.dconst 0, 1) := by decide +kernel
theorem dX0_roundRow_23 : decode cX0_roundRow 23 = .ok (.dcmp .l, 1) := by decide +kernel
theorem dX0_roundRow_24 : decode cX0_roundRow 24 = .ok (.ifCond .le 27, 3) := by decide +kernel
theorem dX0_roundRow_27 : decode cX0_roundRow 27 = .ok (.aload_n 0, 1) := by decide +kernel
theorem dX0_roundRow_28 : decode cX0_roundRow 28 = .ok (.getfield 19, 3) := by decide +kernel
theorem dX0_roundRow_31 : decode cX0_roundRow 31 = .ok (.iload_n 1, 1) := by decide +kernel
theorem dX0_roundRow_32 : decode cX0_roundRow 32 = .ok (.iload 5, 2) := by decide +kernel
theorem dX0_roundRow_34 : decode cX0_roundRow 34 = .ok (.invokestatic 57, 3) := by decide +kernel
theorem dX0_roundRow_37 : decode cX0_roundRow 37 = .ok (.daload, 1) := by decide +kernel
theorem dX0_roundRow_38 : decode cX0_roundRow 38 = .ok (.aload_n 0, 1) := by decide +kernel
theorem dX0_roundRow_39 : decode cX0_roundRow 39 = .ok (.getfield 9, 3) := by decide +kernel
theorem dX0_roundRow_42 : decode cX0_roundRow 42 = .ok (.iload_n 1, 1) := by decide +kernel
theorem dX0_roundRow_43 : decode cX0_roundRow 43 = .ok (.iaload, 1) := by decide +kernel
theorem dX0_roundRow_44 : decode cX0_roundRow 44 = .ok (.i2d, 1) := by decide +kernel
theorem dX0_roundRow_45 : decode cX0_roundRow 45 = .ok (.dmul, 1) := by decide +kernel
theorem dX0_roundRow_46 : decode cX0_roundRow 46 = .ok (.dload_n 2, 1) := by decide +kernel
theorem dX0_roundRow_47 : decode cX0_roundRow 47 = .ok (.ddiv, 1) := by decide +kernel
theorem dX0_roundRow_48 : decode cX0_roundRow 48 = .ok (.goto 4, 3) := by decide +kernel
theorem dX0_roundRow_51 : decode cX0_roundRow 51 = .ok (.dconst 0, 1) := by decide +kernel
theorem dX0_roundRow_52 : decode cX0_roundRow 52 = .ok (.dstore 6, 2) := by decide +kernel
theorem dX0_roundRow_54 : decode cX0_roundRow 54 = .ok (.dload 6, 2) := by decide +kernel
theorem dX0_roundRow_56 : decode cX0_roundRow 56 = .ok (.d2i, 1) := by decide +kernel
theorem dX0_roundRow_57 : decode cX0_roundRow 57 = .ok (.istore 8, 2) := by decide +kernel
theorem dX0_roundRow_59 : decode cX0_roundRow 59 = .ok (.aload_n 0, 1) := by decide +kernel
theorem dX0_roundRow_60 : decode cX0_roundRow 60 = .ok (.getfield 26, 3) := by decide +kernel
theorem dX0_roundRow_63 : decode cX0_roundRow 63 = .ok (.iload_n 1, 1) := by decide +kernel
theorem dX0_roundRow_64 : decode cX0_roundRow 64 = .ok (.iload 5, 2) := by decide +kernel
theorem dX0_roundRow_66 : decode cX0_roundRow 66 = .ok (.invokestatic 57, 3) := by decide +kernel
theorem dX0_roundRow_69 : decode cX0_roundRow 69 = .ok (.iload 8, 2) := by decide +kernel
theorem dX0_roundRow_71 : decode cX0_roundRow 71 = .ok (.iastore, 1) := by decide +kernel
theorem dX0_roundRow_72 : decode cX0_roundRow 72 = .ok (.aload_n 0, 1) := by decide +kernel
theorem dX0_roundRow_73 : decode cX0_roundRow 73 = .ok (.getfield 35, 3) := by decide +kernel
theorem dX0_roundRow_76 : decode cX0_roundRow 76 = .ok (.iload 5, 2) := by decide +kernel
theorem dX0_roundRow_78 : decode cX0_roundRow 78 = .ok (.dload 6, 2) := by decide +kernel
theorem dX0_roundRow_80 : decode cX0_roundRow 80 = .ok (.iload 8, 2) := by decide +kernel
theorem dX0_roundRow_82 : decode cX0_roundRow 82 = .ok (.i2d, 1) := by decide +kernel
theorem dX0_roundRow_83 : decode cX0_roundRow 83 = .ok (.dsub, 1) := by decide +kernel
theorem dX0_roundRow_84 : decode cX0_roundRow 84 = .ok (.dastore, 1) := by decide +kernel
theorem dX0_roundRow_85 : decode cX0_roundRow 85 = .ok (.iload 4, 2) := by decide +kernel
theorem dX0_roundRow_87 : decode cX0_roundRow 87 = .ok (.iload 8, 2) := by decide +kernel
theorem dX0_roundRow_89 : decode cX0_roundRow 89 = .ok (.iadd, 1) := by decide +kernel
theorem dX0_roundRow_90 : decode cX0_roundRow 90 = .ok (.istore 4, 2) := by decide +kernel
theorem dX0_roundRow_92 : decode cX0_roundRow 92 = .ok (.iinc 5 1, 3) := by decide +kernel
theorem dX0_roundRow_95 : decode cX0_roundRow 95 = .ok (.goto (-83), 3) := by decide +kernel
theorem dX0_roundRow_98 : decode cX0_roundRow 98 = .ok (.dload_n 2, 1) := by decide +kernel
theorem dX0_roundRow_99 : decode cX0_roundRow 99 = .ok (.dconst 0, 1) := by decide +kernel
theorem dX0_roundRow_100 : decode cX0_roundRow 100 = .ok (.dcmp .l, 1) := by decide +kernel
theorem dX0_roundRow_101 : decode cX0_roundRow 101 = .ok (.ifCond .le 17, 3) := by decide +kernel
theorem dX0_roundRow_104 : decode cX0_roundRow 104 = .ok (.aload_n 0, 1) := by decide +kernel
theorem dX0_roundRow_105 : decode cX0_roundRow 105 = .ok (.iload_n 1, 1) := by decide +kernel
theorem dX0_roundRow_106 : decode cX0_roundRow 106 = .ok (.aload_n 0, 1) := by decide +kernel
theorem dX0_roundRow_107 : decode cX0_roundRow 107 = .ok (.getfield 9, 3) := by decide +kernel
theorem dX0_roundRow_110 : decode cX0_roundRow 110 = .ok (.iload_n 1, 1) := by decide +kernel
theorem dX0_roundRow_111 : decode cX0_roundRow 111 = .ok (.iaload, 1) := by decide +kernel
theorem dX0_roundRow_112 : decode cX0_roundRow 112 = .ok (.iload 4, 2) := by decide +kernel
theorem dX0_roundRow_114 : decode cX0_roundRow 114 = .ok (.isub, 1) := by decide +kernel
theorem dX0_roundRow_115 : decode cX0_roundRow 115 = .ok (.invokevirtual 203, 3) := by decide +kernel
theorem dX0_roundRow_118 : decode cX0_roundRow 118 = .ok (.return_, 1) := by decide +kernel
set_option maxRecDepth 20000 in
theorem ggX0_raiseGreatestFractions_X0_greatestFraction : GoodIn wsX0_raiseGreatestFractions wsX0_greatestFraction := goodIn_ca (goodIn_r _ [13, 8, 1, 7, 14, 15, 16, 12, 17, 18, 19, 20, 21, 25, 26, 27, 28, 29, 30, 31, 32, 33, 34, 35] (by decide +kernel) (by decide +kernel)) (goodIn_sub (fun _ h => List.mem_cons_of_mem _ (List.mem_append_right _ h)) (by decide +kernel))
set_option maxRecDepth 20000 in
theorem gX0_raiseGreatestFractions_X0_greatestFraction : GoodIn wsX0_raiseGreatestFractions (wsV RX0 206 RX0 yX0_greatestFraction wsX0_greatestFraction) := goodIn_app (goodIn_of _ (by decide +kernel)) ggX0_raiseGreatestFractions_X0_greatestFraction
set_option maxRecDepth 20000 in
theorem ggX0_raiseGreatestFractions_X0_turn : GoodIn wsX0_raiseGreatestFractions wsX0_turn := goodIn_r _ [24] (by decide +kernel) (by decide +kernel)
set_option maxRecDepth 20000 in
theorem gX0_raiseGreatestFractions_X0_turn : GoodIn wsX0_raiseGreatestFractions (va_wsS RX0 57 yX0_turn wsX0_turn) := goodIn_app (goodIn_of _ (by decide +kernel)) ggX0_raiseGreatestFractions_X0_turn
theorem dX0_raiseGreatestFractions_0 : decode cX0_raiseGreatestFractions 0 = .ok (.iload_n 2, 1) := by decide +kernel
theorem dX0_raiseGreatestFractions_1 : decode cX0_raiseGreatestFractions 1 = .ok (.aload_n 0, 1) := by decide +kernel
theorem dX0_raiseGreatestFractions_2 : decode cX0_raiseGreatestFractions 2 = .ok (.getfield 46, 3) := by decide +kernel
theorem dX0_raiseGreatestFractions_5 : decode cX0_raiseGreatestFractions 5 = .ok (.invokestatic 192, 3) := by decide +kernel
theorem dX0_raiseGreatestFractions_8 : decode cX0_raiseGreatestFractions 8 = .ok (.istore_n 3, 1) := by decide +kernel
theorem dX0_raiseGreatestFractions_9 : decode cX0_raiseGreatestFractions 9 = .ok (.iconst 0, 1) := by decide +kernel
theorem dX0_raiseGreatestFractions_10 : decode cX0_raiseGreatestFractions 10 = .ok (.istore 4, 2) := by decide +kernel
theorem dX0_raiseGreatestFractions_12 : decode cX0_raiseGreatestFractions 12 = .ok (.iload 4, 2) := by decide +kernel
theorem dX0_raiseGreatestFractions_14 : decode cX0_raiseGreatestFractions 14 = .ok (.iload_n 3, 1) := by decide +kernel
theorem dX0_raiseGreatestFractions_15 : decode cX0_raiseGreatestFractions 15 = .ok (.if_icmp .ge 48, 3) := by decide +kernel
theorem dX0_raiseGreatestFractions_18 : decode cX0_raiseGreatestFractions 18 = .ok (.aload_n 0, 1) := by decide +kernel
theorem dX0_raiseGreatestFractions_19 : decode cX0_raiseGreatestFractions 19 = .ok (.iload_n 1, 1) := by decide +kernel
theorem dX0_raiseGreatestFractions_20 : decode cX0_raiseGreatestFractions 20 = .ok (.invokevirtual 206, 3) := by decide +kernel
theorem dX0_raiseGreatestFractions_23 : decode cX0_raiseGreatestFractions 23 = .ok (.istore 5, 2) := by decide +kernel
theorem dX0_raiseGreatestFractions_25 : decode cX0_raiseGreatestFractions 25 = .ok (.iload 5, 2) := by decide +kernel
theorem dX0_raiseGreatestFractions_27 : decode cX0_raiseGreatestFractions 27 = .ok (.iconst (-1), 1) := by decide +kernel
theorem dX0_raiseGreatestFractions_28 : decode cX0_raiseGreatestFractions 28 = .ok (.if_icmp .ne 4, 3) := by decide +kernel
theorem dX0_raiseGreatestFractions_31 : decode cX0_raiseGreatestFractions 31 = .ok (.return_, 1) := by decide +kernel
theorem dX0_raiseGreatestFractions_32 : decode cX0_raiseGreatestFractions 32 = .ok (.aload_n 0, 1) := by decide +kernel
theorem dX0_raiseGreatestFractions_33 : decode cX0_raiseGreatestFractions 33 = .ok (.getfield 26, 3) := by decide +kernel
theorem dX0_raiseGreatestFractions_36 : decode cX0_raiseGreatestFractions 36 = .ok (.iload_n 1, 1) := by decide +kernel
theorem dX0_raiseGreatestFractions_37 : decode cX0_raiseGreatestFractions 37 = .ok (.iload 5, 2) := by decide +kernel
theorem dX0_raiseGreatestFractions_39 : decode cX0_raiseGreatestFractions 39 = .ok (.invokestatic 57, 3) := by decide +kernel
theorem dX0_raiseGreatestFractions_42 : decode cX0_raiseGreatestFractions 42 = .ok (.dup2, 1) := by decide +kernel
theorem dX0_raiseGreatestFractions_43 : decode cX0_raiseGreatestFractions 43 = .ok (.iaload, 1) := by decide +kernel
theorem dX0_raiseGreatestFractions_44 : decode cX0_raiseGreatestFractions 44 = .ok (.iconst 1, 1) := by decide +kernel
theorem dX0_raiseGreatestFractions_45 : decode cX0_raiseGreatestFractions 45 = .ok (.iadd, 1) := by decide +kernel
theorem dX0_raiseGreatestFractions_46 : decode cX0_raiseGreatestFractions 46 = .ok (.iastore, 1) := by decide +kernel
theorem dX0_raiseGreatestFractions_47 : decode cX0_raiseGreatestFractions 47 = .ok (.aload_n 0, 1) := by decide +kernel
theorem dX0_raiseGreatestFractions_48 : decode cX0_raiseGreatestFractions 48 = .ok (.getfield 35, 3) := by decide +kernel
theorem dX0_raiseGreatestFractions_51 : decode cX0_raiseGreatestFractions 51 = .ok (.iload 5, 2) := by decide +kernel
theorem dX0_raiseGreatestFractions_53 : decode cX0_raiseGreatestFractions 53 = .ok (.ldc2_w 209, 3) := by decide +kernel
theorem dX0_raiseGreatestFractions_56 : decode cX0_raiseGreatestFractions 56 = .ok (.dastore, 1) := by decide +kernel
theorem dX0_raiseGreatestFractions_57 : decode cX0_raiseGreatestFractions 57 = .ok (.iinc 4 1, 3) := by decide +kernel
theorem dX0_raiseGreatestFractions_60 : decode cX0_raiseGreatestFractions 60 = .ok (.goto (-48), 3) := by decide +kernel
theorem dX0_raiseGreatestFractions_63 : decode cX0_raiseGreatestFractions 63 = .ok (.return_, 1) := by decide +kernel
set_option maxRecDepth 20000 in
theorem ggX0_greatestFraction_X0_isOpen : GoodIn wsX0_greatestFraction wsX0_isOpen := goodIn_ca (goodIn_r _ [8, 9, 10, 11, 7, 12, 13, 14, 15, 16, 17, 18, 19, 20, 21, 22, 23] (by decide +kernel) (by decide +kernel)) (goodIn_sub (fun _ h => List.mem_cons_of_mem _ (List.mem_append_right _ h)) (by decide +kernel))
set_option maxRecDepth 20000 in
theorem gX0_greatestFraction_X0_isOpen : GoodIn wsX0_greatestFraction (wsV RX0 189 RX0 yX0_isOpen wsX0_isOpen) := goodIn_app (goodIn_of _ (by decide +kernel)) ggX0_greatestFraction_X0_isOpen
theorem dX0_greatestFraction_0 : decode cX0_greatestFraction 0 = .ok (.iconst (-1), 1) := by decide +kernel
theorem dX0_greatestFraction_1 : decode cX0_greatestFraction 1 = .ok (.istore_n 2, 1) := by decide +kernel
theorem dX0_greatestFraction_2 : decode cX0_greatestFraction 2 = .ok (.ldc2_w 209, 3) := by decide +kernel
theorem dX0_greatestFraction_5 : decode cX0_greatestFraction 5 = .ok (.dstore_n 3, 1) := by decide +kernel
theorem dX0_greatestFraction_6 : decode cX0_greatestFraction 6 = .ok (.iconst 0, 1) := by decide +kernel
theorem dX0_greatestFraction_7 : decode cX0_greatestFraction 7 = .ok (.istore 5, 2) := by decide +kernel
theorem dX0_greatestFraction_9 : decode cX0_greatestFraction 9 = .ok (.iload 5, 2) := by decide +kernel
theorem dX0_greatestFraction_11 : decode cX0_greatestFraction 11 = .ok (.aload_n 0, 1) := by decide +kernel
theorem dX0_greatestFraction_12 : decode cX0_greatestFraction 12 = .ok (.getfield 46, 3) := by decide +kernel
theorem dX0_greatestFraction_15 : decode cX0_greatestFraction 15 = .ok (.if_icmp .ge 42, 3) := by decide +kernel
theorem dX0_greatestFraction_18 : decode cX0_greatestFraction 18 = .ok (.aload_n 0, 1) := by decide +kernel
theorem dX0_greatestFraction_19 : decode cX0_greatestFraction 19 = .ok (.iload_n 1, 1) := by decide +kernel
theorem dX0_greatestFraction_20 : decode cX0_greatestFraction 20 = .ok (.iload 5, 2) := by decide +kernel
theorem dX0_greatestFraction_22 : decode cX0_greatestFraction 22 = .ok (.invokevirtual 189, 3) := by decide +kernel
theorem dX0_greatestFraction_25 : decode cX0_greatestFraction 25 = .ok (.ifCond .eq 26, 3) := by decide +kernel
theorem dX0_greatestFraction_28 : decode cX0_greatestFraction 28 = .ok (.aload_n 0, 1) := by decide +kernel
theorem dX0_greatestFraction_29 : decode cX0_greatestFraction 29 = .ok (.getfield 35, 3) := by decide +kernel
theorem dX0_greatestFraction_32 : decode cX0_greatestFraction 32 = .ok (.iload 5, 2) := by decide +kernel
theorem dX0_greatestFraction_34 : decode cX0_greatestFraction 34 = .ok (.daload, 1) := by decide +kernel
theorem dX0_greatestFraction_35 : decode cX0_greatestFraction 35 = .ok (.dload_n 3, 1) := by decide +kernel
theorem dX0_greatestFraction_36 : decode cX0_greatestFraction 36 = .ok (.dcmp .l, 1) := by decide +kernel
theorem dX0_greatestFraction_37 : decode cX0_greatestFraction 37 = .ok (.ifCond .le 14, 3) := by decide +kernel
theorem dX0_greatestFraction_40 : decode cX0_greatestFraction 40 = .ok (.aload_n 0, 1) := by decide +kernel
theorem dX0_greatestFraction_41 : decode cX0_greatestFraction 41 = .ok (.getfield 35, 3) := by decide +kernel
theorem dX0_greatestFraction_44 : decode cX0_greatestFraction 44 = .ok (.iload 5, 2) := by decide +kernel
theorem dX0_greatestFraction_46 : decode cX0_greatestFraction 46 = .ok (.daload, 1) := by decide +kernel
theorem dX0_greatestFraction_47 : decode cX0_greatestFraction 47 = .ok (.dstore_n 3, 1) := by decide +kernel
theorem dX0_greatestFraction_48 : decode cX0_greatestFraction 48 = .ok (.iload 5, 2) := by decide +kernel
theorem dX0_greatestFraction_50 : decode cX0_greatestFraction 50 = .ok (.istore_n 2, 1) := by decide +kernel
theorem dX0_greatestFraction_51 : decode cX0_greatestFraction 51 = .ok (.iinc 5 1, 3) := by decide +kernel
theorem dX0_greatestFraction_54 : decode cX0_greatestFraction 54 = .ok (.goto (-45), 3) := by decide +kernel
theorem dX0_greatestFraction_57 : decode cX0_greatestFraction 57 = .ok (.iload_n 2, 1) := by decide +kernel
theorem dX0_greatestFraction_58 : decode cX0_greatestFraction 58 = .ok (.ireturn, 1) := by decide +kernel
set_option maxRecDepth 20000 in
theorem ggX0_roundedDifference_X0_turn : GoodIn wsX0_roundedDifference wsX0_turn := goodIn_r _ [11] (by decide +kernel) (by decide +kernel)
set_option maxRecDepth 20000 in
theorem gX0_roundedDifference_X0_turn : GoodIn wsX0_roundedDifference (va_wsS RX0 57 yX0_turn wsX0_turn) := goodIn_app (goodIn_of _ (by decide +kernel)) ggX0_roundedDifference_X0_turn
theorem dX0_roundedDifference_0 : decode cX0_roundedDifference 0 = .ok (.iconst 0, 1) := by decide +kernel
theorem dX0_roundedDifference_1 : decode cX0_roundedDifference 1 = .ok (.istore_n 1, 1) := by decide +kernel
theorem dX0_roundedDifference_2 : decode cX0_roundedDifference 2 = .ok (.iconst 0, 1) := by decide +kernel
theorem dX0_roundedDifference_3 : decode cX0_roundedDifference 3 = .ok (.istore_n 2, 1) := by decide +kernel
theorem dX0_roundedDifference_4 : decode cX0_roundedDifference 4 = .ok (.iload_n 2, 1) := by decide +kernel
theorem dX0_roundedDifference_5 : decode cX0_roundedDifference 5 = .ok (.aload_n 0, 1) := by decide +kernel
theorem dX0_roundedDifference_6 : decode cX0_roundedDifference 6 = .ok (.getfield 46, 3) := by decide +kernel
theorem dX0_roundedDifference_9 : decode cX0_roundedDifference 9 = .ok (.if_icmp .ge 57, 3) := by decide +kernel
theorem dX0_roundedDifference_12 : decode cX0_roundedDifference 12 = .ok (.iconst 0, 1) := by decide +kernel
theorem dX0_roundedDifference_13 : decode cX0_roundedDifference 13 = .ok (.istore_n 3, 1) := by decide +kernel
theorem dX0_roundedDifference_14 : decode cX0_roundedDifference 14 = .ok (.iconst 0, 1) := by decide +kernel
theorem dX0_roundedDifference_15 : decode cX0_roundedDifference 15 = .ok (.istore 4, 2) := by decide +kernel
theorem dX0_roundedDifference_17 : decode cX0_roundedDifference 17 = .ok (.iload 4, 2) := by decide +kernel
theorem dX0_roundedDifference_19 : decode cX0_roundedDifference 19 = .ok (.aload_n 0, 1) := by decide +kernel
theorem dX0_roundedDifference_20 : decode cX0_roundedDifference 20 = .ok (.getfield 46, 3) := by decide +kernel
theorem dX0_roundedDifference_23 : decode cX0_roundedDifference 23 = .ok (.if_icmp .ge 23, 3) := by decide +kernel
theorem dX0_roundedDifference_26 : decode cX0_roundedDifference 26 = .ok (.iload_n 3, 1) := by decide +kernel
theorem dX0_roundedDifference_27 : decode cX0_roundedDifference 27 = .ok (.aload_n 0, 1) := by decide +kernel
theorem dX0_roundedDifference_28 : decode cX0_roundedDifference 28 = .ok (.getfield 26, 3) := by decide +kernel
theorem dX0_roundedDifference_31 : decode cX0_roundedDifference 31 = .ok (.iload 4, 2) := by decide +kernel
theorem dX0_roundedDifference_33 : decode cX0_roundedDifference 33 = .ok (.iload_n 2, 1) := by decide +kernel
theorem dX0_roundedDifference_34 : decode cX0_roundedDifference 34 = .ok (.invokestatic 57, 3) := by decide +kernel
theorem dX0_roundedDifference_37 : decode cX0_roundedDifference 37 = .ok (.iaload, 1) := by decide +kernel
theorem dX0_roundedDifference_38 : decode cX0_roundedDifference 38 = .ok (.iadd, 1) := by decide +kernel
theorem dX0_roundedDifference_39 : decode cX0_roundedDifference 39 = .ok (.istore_n 3, 1) := by decide +kernel
theorem dX0_roundedDifference_40 : decode cX0_roundedDifference 40 = .ok (.iinc 4 1, 3) := by decide +kernel
theorem dX0_roundedDifference_43 : decode cX0_roundedDifference 43 = .ok (.goto (-26), 3) := by decide +kernel
theorem dX0_roundedDifference_46 : decode cX0_roundedDifference 46 = .ok (.iload_n 1, 1) := by decide +kernel
theorem dX0_roundedDifference_47 : decode cX0_roundedDifference 47 = .ok (.iload_n 3, 1) := by decide +kernel
theorem dX0_roundedDifference_48 : decode cX0_roundedDifference 48 = .ok (.aload_n 0, 1) := by decide +kernel
theorem dX0_roundedDifference_49 : decode cX0_roundedDifference 49 = .ok (.getfield 13, 3) := by decide +kernel
theorem dX0_roundedDifference_52 : decode cX0_roundedDifference 52 = .ok (.iload_n 2, 1) := by decide +kernel
theorem dX0_roundedDifference_53 : decode cX0_roundedDifference 53 = .ok (.iaload, 1) := by decide +kernel
theorem dX0_roundedDifference_54 : decode cX0_roundedDifference 54 = .ok (.isub, 1) := by decide +kernel
theorem dX0_roundedDifference_55 : decode cX0_roundedDifference 55 = .ok (.invokestatic 211, 3) := by decide +kernel
theorem dX0_roundedDifference_58 : decode cX0_roundedDifference 58 = .ok (.iadd, 1) := by decide +kernel
theorem dX0_roundedDifference_59 : decode cX0_roundedDifference 59 = .ok (.istore_n 1, 1) := by decide +kernel
theorem dX0_roundedDifference_60 : decode cX0_roundedDifference 60 = .ok (.iinc 2 1, 3) := by decide +kernel
theorem dX0_roundedDifference_63 : decode cX0_roundedDifference 63 = .ok (.goto (-59), 3) := by decide +kernel
theorem dX0_roundedDifference_66 : decode cX0_roundedDifference 66 = .ok (.iload_n 1, 1) := by decide +kernel
theorem dX0_roundedDifference_67 : decode cX0_roundedDifference 67 = .ok (.ireturn, 1) := by decide +kernel
theorem dX0_mixed_0 : decode cX0_mixed 0 = .ok (.ldc2_w 214, 3) := by decide +kernel
theorem dX0_mixed_3 : decode cX0_mixed 3 = .ok (.lload_n 0, 1) := by decide +kernel
theorem dX0_mixed_4 : decode cX0_mixed 4 = .ok (.lmul, 1) := by decide +kernel
theorem dX0_mixed_5 : decode cX0_mixed 5 = .ok (.lload_n 2, 1) := by decide +kernel
theorem dX0_mixed_6 : decode cX0_mixed 6 = .ok (.ladd, 1) := by decide +kernel
theorem dX0_mixed_7 : decode cX0_mixed 7 = .ok (.lreturn, 1) := by decide +kernel
set_option maxRecDepth 20000 in
theorem ggX0_mixedTurn_X0_mixed : GoodIn wsX0_mixedTurn wsX0_mixed := goodIn_r _ [8, 9] (by decide +kernel) (by decide +kernel)
set_option maxRecDepth 20000 in
theorem gX0_mixedTurn_X0_mixed : GoodIn wsX0_mixedTurn (va_wsS RX0 137 yX0_mixed wsX0_mixed) := goodIn_app (goodIn_of _ (by decide +kernel)) ggX0_mixedTurn_X0_mixed
set_option maxRecDepth 20000 in
theorem ggX0_mixedTurn_X0_thousandthsOf : GoodIn wsX0_mixedTurn wsX0_thousandthsOf := goodIn_r _ [12, 13] (by decide +kernel) (by decide +kernel)
set_option maxRecDepth 20000 in
theorem gX0_mixedTurn_X0_thousandthsOf : GoodIn wsX0_mixedTurn (va_wsS RX0 145 yX0_thousandthsOf wsX0_thousandthsOf) := goodIn_app (goodIn_of _ (by decide +kernel)) ggX0_mixedTurn_X0_thousandthsOf
theorem dX0_mixedTurn_0 : decode cX0_mixedTurn 0 = .ok (.lload_n 1, 1) := by decide +kernel
theorem dX0_mixedTurn_1 : decode cX0_mixedTurn 1 = .ok (.aload_n 0, 1) := by decide +kernel
theorem dX0_mixedTurn_2 : decode cX0_mixedTurn 2 = .ok (.getfield 16, 3) := by decide +kernel
theorem dX0_mixedTurn_5 : decode cX0_mixedTurn 5 = .ok (.iload_n 3, 1) := by decide +kernel
theorem dX0_mixedTurn_6 : decode cX0_mixedTurn 6 = .ok (.iaload, 1) := by decide +kernel
theorem dX0_mixedTurn_7 : decode cX0_mixedTurn 7 = .ok (.i2l, 1) := by decide +kernel
theorem dX0_mixedTurn_8 : decode cX0_mixedTurn 8 = .ok (.invokestatic 137, 3) := by decide +kernel
theorem dX0_mixedTurn_11 : decode cX0_mixedTurn 11 = .ok (.lstore 4, 2) := by decide +kernel
theorem dX0_mixedTurn_13 : decode cX0_mixedTurn 13 = .ok (.lload 4, 2) := by decide +kernel
theorem dX0_mixedTurn_15 : decode cX0_mixedTurn 15 = .ok (.aload_n 0, 1) := by decide +kernel
theorem dX0_mixedTurn_16 : decode cX0_mixedTurn 16 = .ok (.getfield 19, 3) := by decide +kernel
theorem dX0_mixedTurn_19 : decode cX0_mixedTurn 19 = .ok (.iload_n 3, 1) := by decide +kernel
theorem dX0_mixedTurn_20 : decode cX0_mixedTurn 20 = .ok (.daload, 1) := by decide +kernel
theorem dX0_mixedTurn_21 : decode cX0_mixedTurn 21 = .ok (.invokestatic 145, 3) := by decide +kernel
theorem dX0_mixedTurn_24 : decode cX0_mixedTurn 24 = .ok (.invokestatic 137, 3) := by decide +kernel
theorem dX0_mixedTurn_27 : decode cX0_mixedTurn 27 = .ok (.lstore 4, 2) := by decide +kernel
theorem dX0_mixedTurn_29 : decode cX0_mixedTurn 29 = .ok (.lload 4, 2) := by decide +kernel
theorem dX0_mixedTurn_31 : decode cX0_mixedTurn 31 = .ok (.aload_n 0, 1) := by decide +kernel
theorem dX0_mixedTurn_32 : decode cX0_mixedTurn 32 = .ok (.getfield 26, 3) := by decide +kernel
theorem dX0_mixedTurn_35 : decode cX0_mixedTurn 35 = .ok (.iload_n 3, 1) := by decide +kernel
theorem dX0_mixedTurn_36 : decode cX0_mixedTurn 36 = .ok (.iaload, 1) := by decide +kernel
theorem dX0_mixedTurn_37 : decode cX0_mixedTurn 37 = .ok (.i2l, 1) := by decide +kernel
theorem dX0_mixedTurn_38 : decode cX0_mixedTurn 38 = .ok (.invokestatic 137, 3) := by decide +kernel
theorem dX0_mixedTurn_41 : decode cX0_mixedTurn 41 = .ok (.lstore 4, 2) := by decide +kernel
theorem dX0_mixedTurn_43 : decode cX0_mixedTurn 43 = .ok (.lload 4, 2) := by decide +kernel
theorem dX0_mixedTurn_45 : decode cX0_mixedTurn 45 = .ok (.aload_n 0, 1) := by decide +kernel
theorem dX0_mixedTurn_46 : decode cX0_mixedTurn 46 = .ok (.getfield 29, 3) := by decide +kernel
theorem dX0_mixedTurn_49 : decode cX0_mixedTurn 49 = .ok (.iload_n 3, 1) := by decide +kernel
theorem dX0_mixedTurn_50 : decode cX0_mixedTurn 50 = .ok (.iaload, 1) := by decide +kernel
theorem dX0_mixedTurn_51 : decode cX0_mixedTurn 51 = .ok (.i2l, 1) := by decide +kernel
theorem dX0_mixedTurn_52 : decode cX0_mixedTurn 52 = .ok (.invokestatic 137, 3) := by decide +kernel
theorem dX0_mixedTurn_55 : decode cX0_mixedTurn 55 = .ok (.lreturn, 1) := by decide +kernel
theorem dX0_thousandthsOf_0 : decode cX0_thousandthsOf 0 = .ok (.dload_n 0, 1) := by decide +kernel
theorem dX0_thousandthsOf_1 : decode cX0_thousandthsOf 1 = .ok (.ldc2_w 99, 3) := by decide +kernel
theorem dX0_thousandthsOf_4 : decode cX0_thousandthsOf 4 = .ok (.dmul, 1) := by decide +kernel
theorem dX0_thousandthsOf_5 : decode cX0_thousandthsOf 5 = .ok (.d2l, 1) := by decide +kernel
theorem dX0_thousandthsOf_6 : decode cX0_thousandthsOf 6 = .ok (.lreturn, 1) := by decide +kernel
end
section
set_option maxRecDepth 20000 in
theorem ggX1_init_X1_begin : GoodIn wsX1_init wsX1_begin := goodIn_ca (goodIn_r _ [20, 8, 6, 7, 21, 22, 23, 19, 24, 10, 25, 26, 27, 28, 29, 30, 31, 32, 33, 34, 35, 36, 37, 38] (by decide +kernel) (by decide +kernel)) (goodIn_sub (fun _ h => List.mem_cons_of_mem _ (List.mem_append_right _ h)) (by decide +kernel))
set_option maxRecDepth 20000 in
theorem gX1_init_X1_begin : GoodIn wsX1_init (wsV RX1 42 RX1 yX1_begin wsX1_begin) := goodIn_app (goodIn_of _ (by decide +kernel)) ggX1_init_X1_begin
theorem dX1_init_0 : decode cX1_init 0 = .ok (.aload_n 0, 1) := by decide +kernel
theorem dX1_init_1 : decode cX1_init 1 = .ok (.invokespecial 1, 3) := by decide +kernel
theorem dX1_init_4 : decode cX1_init 4 = .ok (.aload_n 0, 1) := by decide +kernel
theorem dX1_init_5 : decode cX1_init 5 = .ok (.iconst 4, 1) := by decide +kernel
theorem dX1_init_6 : decode cX1_init 6 = .ok (.putfield 7, 3) := by decide +kernel
theorem dX1_init_9 : decode cX1_init 9 = .ok (.aload_n 0, 1) := by decide +kernel
theorem dX1_init_10 : decode cX1_init 10 = .ok (.bipush 6, 2) := by decide +kernel
theorem dX1_init_12 : decode cX1_init 12 = .ok (.newarray .int, 2) := by decide +kernel
theorem dX1_init_14 : decode cX1_init 14 = .ok (.putfield 13, 3) := by decide +kernel
theorem dX1_init_17 : decode cX1_init 17 = .ok (.aload_n 0, 1) := by decide +kernel
theorem dX1_init_18 : decode cX1_init 18 = .ok (.bipush 6, 2) := by decide +kernel
theorem dX1_init_20 : decode cX1_init 20 = .ok (.newarray .int, 2) := by decide +kernel
theorem dX1_init_22 : decode cX1_init 22 = .ok (.putfield 17, 3) := by decide +kernel
theorem dX1_init_25 : decode cX1_init 25 = .ok (.aload_n 0, 1) := by decide +kernel
theorem dX1_init_26 : decode cX1_init 26 = .ok (.bipush 36, 2) := by decide +kernel
theorem dX1_init_28 : decode cX1_init 28 = .ok (.newarray .int, 2) := by decide +kernel
theorem dX1_init_30 : decode cX1_init 30 = .ok (.putfield 20, 3) := by decide +kernel
theorem dX1_init_33 : decode cX1_init 33 = .ok (.aload_n 0, 1) := by decide +kernel
theorem dX1_init_34 : decode cX1_init 34 = .ok (.bipush 36, 2) := by decide +kernel
theorem dX1_init_36 : decode cX1_init 36 = .ok (.newarray .double, 2) := by decide +kernel
theorem dX1_init_38 : decode cX1_init 38 = .ok (.putfield 23, 3) := by decide +kernel
theorem dX1_init_41 : decode cX1_init 41 = .ok (.aload_n 0, 1) := by decide +kernel
theorem dX1_init_42 : decode cX1_init 42 = .ok (.bipush 36, 2) := by decide +kernel
theorem dX1_init_44 : decode cX1_init 44 = .ok (.newarray .int, 2) := by decide +kernel
theorem dX1_init_46 : decode cX1_init 46 = .ok (.putfield 27, 3) := by decide +kernel
theorem dX1_init_49 : decode cX1_init 49 = .ok (.aload_n 0, 1) := by decide +kernel
theorem dX1_init_50 : decode cX1_init 50 = .ok (.bipush 6, 2) := by decide +kernel
theorem dX1_init_52 : decode cX1_init 52 = .ok (.newarray .double, 2) := by decide +kernel
theorem dX1_init_54 : decode cX1_init 54 = .ok (.putfield 30, 3) := by decide +kernel
theorem dX1_init_57 : decode cX1_init 57 = .ok (.aload_n 0, 1) := by decide +kernel
theorem dX1_init_58 : decode cX1_init 58 = .ok (.bipush 36, 2) := by decide +kernel
theorem dX1_init_60 : decode cX1_init 60 = .ok (.newarray .int, 2) := by decide +kernel
theorem dX1_init_62 : decode cX1_init 62 = .ok (.putfield 33, 3) := by decide +kernel
theorem dX1_init_65 : decode cX1_init 65 = .ok (.aload_n 0, 1) := by decide +kernel
theorem dX1_init_66 : decode cX1_init 66 = .ok (.bipush 6, 2) := by decide +kernel
theorem dX1_init_68 : decode cX1_init 68 = .ok (.newarray .int, 2) := by decide +kernel
theorem dX1_init_70 : decode cX1_init 70 = .ok (.putfield 36, 3) := by decide +kernel
theorem dX1_init_73 : decode cX1_init 73 = .ok (.aload_n 0, 1) := by decide +kernel
theorem dX1_init_74 : decode cX1_init 74 = .ok (.bipush 6, 2) := by decide +kernel
theorem dX1_init_76 : decode cX1_init 76 = .ok (.newarray .int, 2) := by decide +kernel
theorem dX1_init_78 : decode cX1_init 78 = .ok (.putfield 39, 3) := by decide +kernel
theorem dX1_init_81 : decode cX1_init 81 = .ok (.aload_n 0, 1) := by decide +kernel
theorem dX1_init_82 : decode cX1_init 82 = .ok (.invokevirtual 42, 3) := by decide +kernel
theorem dX1_init_85 : decode cX1_init 85 = .ok (.return_, 1) := by decide +kernel
theorem dX1_thrown_0 : decode cX1_thrown 0 = .ok (.aload_n 0, 1) := by decide +kernel
theorem dX1_thrown_1 : decode cX1_thrown 1 = .ok (.getfield 45, 3) := by decide +kernel
theorem dX1_thrown_4 : decode cX1_thrown 4 = .ok (.ireturn, 1) := by decide +kernel
theorem dX1_within_0 : decode cX1_within 0 = .ok (.iload_n 0, 1) := by decide +kernel
theorem dX1_within_1 : decode cX1_within 1 = .ok (.iload_n 1, 1) := by decide +kernel
theorem dX1_within_2 : decode cX1_within 2 = .ok (.if_icmp .lt 12, 3) := by decide +kernel
theorem dX1_within_5 : decode cX1_within 5 = .ok (.iload_n 0, 1) := by decide +kernel
theorem dX1_within_6 : decode cX1_within 6 = .ok (.iload_n 2, 1) := by decide +kernel
theorem dX1_within_7 : decode cX1_within 7 = .ok (.if_icmp .gt 7, 3) := by decide +kernel
theorem dX1_within_10 : decode cX1_within 10 = .ok (.iconst 1, 1) := by decide +kernel
theorem dX1_within_11 : decode cX1_within 11 = .ok (.goto 4, 3) := by decide +kernel
theorem dX1_within_14 : decode cX1_within 14 = .ok (.iconst 0, 1) := by decide +kernel
theorem dX1_within_15 : decode cX1_within 15 = .ok (.ireturn, 1) := by decide +kernel
set_option maxRecDepth 20000 in
theorem ggX1_isArm_X1_within : GoodIn wsX1_isArm wsX1_within := goodIn_r _ [5] (by decide +kernel) (by decide +kernel)
set_option maxRecDepth 20000 in
theorem gX1_isArm_X1_within : GoodIn wsX1_isArm (va_wsS RX1 48 yX1_within wsX1_within) := goodIn_app (goodIn_of _ (by decide +kernel)) ggX1_isArm_X1_within
theorem dX1_isArm_0 : decode cX1_isArm 0 = .ok (.iload_n 1, 1) := by decide +kernel
theorem dX1_isArm_1 : decode cX1_isArm 1 = .ok (.iconst 0, 1) := by decide +kernel
theorem dX1_isArm_2 : decode cX1_isArm 2 = .ok (.aload_n 0, 1) := by decide +kernel
theorem dX1_isArm_3 : decode cX1_isArm 3 = .ok (.getfield 7, 3) := by decide +kernel
theorem dX1_isArm_6 : decode cX1_isArm 6 = .ok (.iconst 1, 1) := by decide +kernel
theorem dX1_isArm_7 : decode cX1_isArm 7 = .ok (.isub, 1) := by decide +kernel
theorem dX1_isArm_8 : decode cX1_isArm 8 = .ok (.invokestatic 48, 3) := by decide +kernel
theorem dX1_isArm_11 : decode cX1_isArm 11 = .ok (.ireturn, 1) := by decide +kernel
theorem dX1_layWeights_0 : decode cX1_layWeights 0 = .ok (.iconst 0, 1) := by decide +kernel
theorem dX1_layWeights_1 : decode cX1_layWeights 1 = .ok (.istore_n 1, 1) := by decide +kernel
theorem dX1_layWeights_2 : decode cX1_layWeights 2 = .ok (.iload_n 1, 1) := by decide +kernel
theorem dX1_layWeights_3 : decode cX1_layWeights 3 = .ok (.bipush 36, 2) := by decide +kernel
theorem dX1_layWeights_5 : decode cX1_layWeights 5 = .ok (.if_icmp .ge 22, 3) := by decide +kernel
theorem dX1_layWeights_8 : decode cX1_layWeights 8 = .ok (.aload_n 0, 1) := by decide +kernel
theorem dX1_layWeights_9 : decode cX1_layWeights 9 = .ok (.getfield 23, 3) := by decide +kernel
theorem dX1_layWeights_12 : decode cX1_layWeights 12 = .ok (.iload_n 1, 1) := by decide +kernel
theorem dX1_layWeights_13 : decode cX1_layWeights 13 = .ok (.aload_n 0, 1) := by decide +kernel
theorem dX1_layWeights_14 : decode cX1_layWeights 14 = .ok (.getfield 20, 3) := by decide +kernel
theorem dX1_layWeights_17 : decode cX1_layWeights 17 = .ok (.iload_n 1, 1) := by decide +kernel
theorem dX1_layWeights_18 : decode cX1_layWeights 18 = .ok (.iaload, 1) := by decide +kernel
theorem dX1_layWeights_19 : decode cX1_layWeights 19 = .ok (.i2d, 1) := by decide +kernel
theorem dX1_layWeights_20 : decode cX1_layWeights 20 = .ok (.dastore, 1) := by decide +kernel
theorem dX1_layWeights_21 : decode cX1_layWeights 21 = .ok (.iinc 1 1, 3) := by decide +kernel
theorem dX1_layWeights_24 : decode cX1_layWeights 24 = .ok (.goto (-22), 3) := by decide +kernel
theorem dX1_layWeights_27 : decode cX1_layWeights 27 = .ok (.aload_n 0, 1) := by decide +kernel
theorem dX1_layWeights_28 : decode cX1_layWeights 28 = .ok (.iconst 0, 1) := by decide +kernel
theorem dX1_layWeights_29 : decode cX1_layWeights 29 = .ok (.putfield 52, 3) := by decide +kernel
theorem dX1_layWeights_32 : decode cX1_layWeights 32 = .ok (.return_, 1) := by decide +kernel
set_option maxRecDepth 20000 in
theorem ggX1_begin_X1_layWeights : GoodIn wsX1_begin wsX1_layWeights := goodIn_ca (goodIn_r _ [8, 9, 1, 10, 11, 12, 13, 14, 15, 16, 17, 18, 19, 20, 21, 22, 23] (by decide +kernel) (by decide +kernel)) (goodIn_sub (fun _ h => List.mem_cons_of_mem _ (List.mem_append_right _ h)) (by decide +kernel))
set_option maxRecDepth 20000 in
theorem gX1_begin_X1_layWeights : GoodIn wsX1_begin (wsV RX1 55 RX1 yX1_layWeights wsX1_layWeights) := goodIn_app (goodIn_of _ (by decide +kernel)) ggX1_begin_X1_layWeights
theorem dX1_begin_0 : decode cX1_begin 0 = .ok (.iconst 0, 1) := by decide +kernel
theorem dX1_begin_1 : decode cX1_begin 1 = .ok (.istore_n 1, 1) := by decide +kernel
theorem dX1_begin_2 : decode cX1_begin 2 = .ok (.iload_n 1, 1) := by decide +kernel
theorem dX1_begin_3 : decode cX1_begin 3 = .ok (.bipush 36, 2) := by decide +kernel
theorem dX1_begin_5 : decode cX1_begin 5 = .ok (.if_icmp .ge 31, 3) := by decide +kernel
theorem dX1_begin_8 : decode cX1_begin 8 = .ok (.aload_n 0, 1) := by decide +kernel
theorem dX1_begin_9 : decode cX1_begin 9 = .ok (.getfield 20, 3) := by decide +kernel
theorem dX1_begin_12 : decode cX1_begin 12 = .ok (.iload_n 1, 1) := by decide +kernel
theorem dX1_begin_13 : decode cX1_begin 13 = .ok (.iload_n 1, 1) := by decide +kernel
theorem dX1_begin_14 : decode cX1_begin 14 = .ok (.bipush 6, 2) := by decide +kernel
theorem dX1_begin_16 : decode cX1_begin 16 = .ok (.idiv, 1) := by decide +kernel
theorem dX1_begin_17 : decode cX1_begin 17 = .ok (.iload_n 1, 1) := by decide +kernel
theorem dX1_begin_18 : decode cX1_begin 18 = .ok (.bipush 6, 2) := by decide +kernel
theorem dX1_begin_20 : decode cX1_begin 20 = .ok (.irem, 1) := by decide +kernel
theorem dX1_begin_21 : decode cX1_begin 21 = .ok (.if_icmp .ne 7, 3) := by decide +kernel
theorem dX1_begin_24 : decode cX1_begin 24 = .ok (.iconst 0, 1) := by decide +kernel
theorem dX1_begin_25 : decode cX1_begin 25 = .ok (.goto 4, 3) := by decide +kernel
theorem dX1_begin_28 : decode cX1_begin 28 = .ok (.iconst 1, 1) := by decide +kernel
theorem dX1_begin_29 : decode cX1_begin 29 = .ok (.iastore, 1) := by decide +kernel
theorem dX1_begin_30 : decode cX1_begin 30 = .ok (.iinc 1 1, 3) := by decide +kernel
theorem dX1_begin_33 : decode cX1_begin 33 = .ok (.goto (-31), 3) := by decide +kernel
theorem dX1_begin_36 : decode cX1_begin 36 = .ok (.iconst 0, 1) := by decide +kernel
theorem dX1_begin_37 : decode cX1_begin 37 = .ok (.istore_n 1, 1) := by decide +kernel
theorem dX1_begin_38 : decode cX1_begin 38 = .ok (.iload_n 1, 1) := by decide +kernel
theorem dX1_begin_39 : decode cX1_begin 39 = .ok (.bipush 6, 2) := by decide +kernel
theorem dX1_begin_41 : decode cX1_begin 41 = .ok (.if_icmp .ge 23, 3) := by decide +kernel
theorem dX1_begin_44 : decode cX1_begin 44 = .ok (.aload_n 0, 1) := by decide +kernel
theorem dX1_begin_45 : decode cX1_begin 45 = .ok (.getfield 13, 3) := by decide +kernel
theorem dX1_begin_48 : decode cX1_begin 48 = .ok (.iload_n 1, 1) := by decide +kernel
theorem dX1_begin_49 : decode cX1_begin 49 = .ok (.iconst 0, 1) := by decide +kernel
theorem dX1_begin_50 : decode cX1_begin 50 = .ok (.iastore, 1) := by decide +kernel
theorem dX1_begin_51 : decode cX1_begin 51 = .ok (.aload_n 0, 1) := by decide +kernel
theorem dX1_begin_52 : decode cX1_begin 52 = .ok (.getfield 17, 3) := by decide +kernel
theorem dX1_begin_55 : decode cX1_begin 55 = .ok (.iload_n 1, 1) := by decide +kernel
theorem dX1_begin_56 : decode cX1_begin 56 = .ok (.iconst 0, 1) := by decide +kernel
theorem dX1_begin_57 : decode cX1_begin 57 = .ok (.iastore, 1) := by decide +kernel
theorem dX1_begin_58 : decode cX1_begin 58 = .ok (.iinc 1 1, 3) := by decide +kernel
theorem dX1_begin_61 : decode cX1_begin 61 = .ok (.goto (-23), 3) := by decide +kernel
theorem dX1_begin_64 : decode cX1_begin 64 = .ok (.aload_n 0, 1) := by decide +kernel
theorem dX1_begin_65 : decode cX1_begin 65 = .ok (.invokevirtual 55, 3) := by decide +kernel
theorem dX1_begin_68 : decode cX1_begin 68 = .ok (.return_, 1) := by decide +kernel
set_option maxRecDepth 20000 in
theorem ggX1_setArms_X1_within : GoodIn wsX1_setArms wsX1_within := goodIn_r _ [6] (by decide +kernel) (by decide +kernel)
set_option maxRecDepth 20000 in
theorem gX1_setArms_X1_within : GoodIn wsX1_setArms (va_wsS RX1 48 yX1_within wsX1_within) := goodIn_app (goodIn_of _ (by decide +kernel)) ggX1_setArms_X1_within
set_option maxRecDepth 20000 in
theorem ggX1_setArms_X1_begin : GoodIn wsX1_setArms wsX1_begin := goodIn_ca (goodIn_r _ [10, 11, 12, 13, 14, 15, 16, 5, 17, 18, 19, 20, 21, 22, 23, 24, 25, 26, 27, 28, 29, 30, 31, 32] (by decide +kernel) (by decide +kernel)) (goodIn_sub (fun _ h => List.mem_cons_of_mem _ (List.mem_append_right _ h)) (by decide +kernel))
set_option maxRecDepth 20000 in
theorem gX1_setArms_X1_begin : GoodIn wsX1_setArms (wsV RX1 42 RX1 yX1_begin wsX1_begin) := goodIn_app (goodIn_of _ (by decide +kernel)) ggX1_setArms_X1_begin
theorem dX1_setArms_0 : decode cX1_setArms 0 = .ok (.aload_n 0, 1) := by decide +kernel
theorem dX1_setArms_1 : decode cX1_setArms 1 = .ok (.iload_n 1, 1) := by decide +kernel
theorem dX1_setArms_2 : decode cX1_setArms 2 = .ok (.iconst 3, 1) := by decide +kernel
theorem dX1_setArms_3 : decode cX1_setArms 3 = .ok (.bipush 6, 2) := by decide +kernel
theorem dX1_setArms_5 : decode cX1_setArms 5 = .ok (.invokestatic 48, 3) := by decide +kernel
theorem dX1_setArms_8 : decode cX1_setArms 8 = .ok (.ifCond .eq 7, 3) := by decide +kernel
theorem dX1_setArms_11 : decode cX1_setArms 11 = .ok (.iconst 0, 1) := by decide +kernel
theorem dX1_setArms_12 : decode cX1_setArms 12 = .ok (.goto 4, 3) := by decide +kernel
theorem dX1_setArms_15 : decode cX1_setArms 15 = .ok (.iconst 1, 1) := by decide +kernel
theorem dX1_setArms_16 : decode cX1_setArms 16 = .ok (.putfield 45, 3) := by decide +kernel
theorem dX1_setArms_19 : decode cX1_setArms 19 = .ok (.aload_n 0, 1) := by decide +kernel
theorem dX1_setArms_20 : decode cX1_setArms 20 = .ok (.getfield 45, 3) := by decide +kernel
theorem dX1_setArms_23 : decode cX1_setArms 23 = .ok (.ifCond .le 5, 3) := by decide +kernel
theorem dX1_setArms_26 : decode cX1_setArms 26 = .ok (.iconst 0, 1) := by decide +kernel
theorem dX1_setArms_27 : decode cX1_setArms 27 = .ok (.ireturn, 1) := by decide +kernel
theorem dX1_setArms_28 : decode cX1_setArms 28 = .ok (.aload_n 0, 1) := by decide +kernel
theorem dX1_setArms_29 : decode cX1_setArms 29 = .ok (.getfield 7, 3) := by decide +kernel
theorem dX1_setArms_32 : decode cX1_setArms 32 = .ok (.istore_n 2, 1) := by decide +kernel
theorem dX1_setArms_33 : decode cX1_setArms 33 = .ok (.aload_n 0, 1) := by decide +kernel
theorem dX1_setArms_34 : decode cX1_setArms 34 = .ok (.iload_n 1, 1) := by decide +kernel
theorem dX1_setArms_35 : decode cX1_setArms 35 = .ok (.putfield 7, 3) := by decide +kernel
theorem dX1_setArms_38 : decode cX1_setArms 38 = .ok (.aload_n 0, 1) := by decide +kernel
theorem dX1_setArms_39 : decode cX1_setArms 39 = .ok (.invokevirtual 42, 3) := by decide +kernel
theorem dX1_setArms_42 : decode cX1_setArms 42 = .ok (.iload_n 2, 1) := by decide +kernel
theorem dX1_setArms_43 : decode cX1_setArms 43 = .ok (.ireturn, 1) := by decide +kernel
theorem dX1_arms_0 : decode cX1_arms 0 = .ok (.aload_n 0, 1) := by decide +kernel
theorem dX1_arms_1 : decode cX1_arms 1 = .ok (.iconst 0, 1) := by decide +kernel
theorem dX1_arms_2 : decode cX1_arms 2 = .ok (.putfield 45, 3) := by decide +kernel
theorem dX1_arms_5 : decode cX1_arms 5 = .ok (.aload_n 0, 1) := by decide +kernel
theorem dX1_arms_6 : decode cX1_arms 6 = .ok (.getfield 7, 3) := by decide +kernel
theorem dX1_arms_9 : decode cX1_arms 9 = .ok (.ireturn, 1) := by decide +kernel
set_option maxRecDepth 20000 in
theorem ggX1_setInflow_X1_isArm : GoodIn wsX1_setInflow wsX1_isArm := goodIn_r _ [7, 8, 9, 10, 6, 11, 19, 20, 21, 22, 23, 24, 25, 26, 27, 28, 29, 30, 31] (by decide +kernel) (by decide +kernel)
set_option maxRecDepth 20000 in
theorem gX1_setInflow_X1_isArm : GoodIn wsX1_setInflow (wsV RX1 58 RX1 yX1_isArm wsX1_isArm) := goodIn_app (goodIn_of _ (by decide +kernel)) ggX1_setInflow_X1_isArm
set_option maxRecDepth 20000 in
theorem ggX1_setInflow_X1_within : GoodIn wsX1_setInflow wsX1_within := goodIn_r _ [11] (by decide +kernel) (by decide +kernel)
set_option maxRecDepth 20000 in
theorem gX1_setInflow_X1_within : GoodIn wsX1_setInflow (va_wsS RX1 48 yX1_within wsX1_within) := goodIn_app (goodIn_of _ (by decide +kernel)) ggX1_setInflow_X1_within
set_option maxRecDepth 20000 in
theorem ggX1_setInflow_X1_layWeights : GoodIn wsX1_setInflow wsX1_layWeights := goodIn_ca (goodIn_r _ [15, 16, 17, 18, 19, 20, 21, 22, 23, 24, 25, 26, 27, 28, 29, 30, 31] (by decide +kernel) (by decide +kernel)) (goodIn_sub (fun _ h => List.mem_cons_of_mem _ (List.mem_append_right _ h)) (by decide +kernel))
set_option maxRecDepth 20000 in
theorem gX1_setInflow_X1_layWeights : GoodIn wsX1_setInflow (wsV RX1 55 RX1 yX1_layWeights wsX1_layWeights) := goodIn_app (goodIn_of _ (by decide +kernel)) ggX1_setInflow_X1_layWeights
theorem dX1_setInflow_0 : decode cX1_setInflow 0 = .ok (.aload_n 0, 1) := by decide +kernel
theorem dX1_setInflow_1 : decode cX1_setInflow 1 = .ok (.aload_n 0, 1) := by decide +kernel
theorem dX1_setInflow_2 : decode cX1_setInflow 2 = .ok (.iload_n 1, 1) := by decide +kernel
theorem dX1_setInflow_3 : decode cX1_setInflow 3 = .ok (.invokevirtual 58, 3) := by decide +kernel
theorem dX1_setInflow_6 : decode cX1_setInflow 6 = .ok (.ifCond .ne 7, 3) := by decide +kernel
theorem dX1_setInflow_9 : decode cX1_setInflow 9 = .ok (.iconst 1, 1) := by decide +kernel
theorem dX1_setInflow_10 : decode cX1_setInflow 10 = .ok (.goto 19, 3) := by decide +kernel
theorem dX1_setInflow_13 : decode cX1_setInflow 13 = .ok (.iload_n 2, 1) := by decide +kernel
theorem dX1_setInflow_14 : decode cX1_setInflow 14 = .ok (.iconst 0, 1) := by decide +kernel
theorem dX1_setInflow_15 : decode cX1_setInflow 15 = .ok (.sipush 9999, 3) := by decide +kernel
theorem dX1_setInflow_18 : decode cX1_setInflow 18 = .ok (.invokestatic 48, 3) := by decide +kernel
theorem dX1_setInflow_21 : decode cX1_setInflow 21 = .ok (.ifCond .eq 7, 3) := by decide +kernel
theorem dX1_setInflow_24 : decode cX1_setInflow 24 = .ok (.iconst 0, 1) := by decide +kernel
theorem dX1_setInflow_25 : decode cX1_setInflow 25 = .ok (.goto 4, 3) := by decide +kernel
theorem dX1_setInflow_28 : decode cX1_setInflow 28 = .ok (.iconst 2, 1) := by decide +kernel
theorem dX1_setInflow_29 : decode cX1_setInflow 29 = .ok (.putfield 45, 3) := by decide +kernel
theorem dX1_setInflow_32 : decode cX1_setInflow 32 = .ok (.aload_n 0, 1) := by decide +kernel
theorem dX1_setInflow_33 : decode cX1_setInflow 33 = .ok (.getfield 45, 3) := by decide +kernel
theorem dX1_setInflow_36 : decode cX1_setInflow 36 = .ok (.ifCond .le 5, 3) := by decide +kernel
theorem dX1_setInflow_39 : decode cX1_setInflow 39 = .ok (.iconst 0, 1) := by decide +kernel
theorem dX1_setInflow_40 : decode cX1_setInflow 40 = .ok (.ireturn, 1) := by decide +kernel
theorem dX1_setInflow_41 : decode cX1_setInflow 41 = .ok (.aload_n 0, 1) := by decide +kernel
theorem dX1_setInflow_42 : decode cX1_setInflow 42 = .ok (.getfield 13, 3) := by decide +kernel
theorem dX1_setInflow_45 : decode cX1_setInflow 45 = .ok (.iload_n 1, 1) := by decide +kernel
theorem dX1_setInflow_46 : decode cX1_setInflow 46 = .ok (.iaload, 1) := by decide +kernel
theorem dX1_setInflow_47 : decode cX1_setInflow 47 = .ok (.istore_n 3, 1) := by decide +kernel
theorem dX1_setInflow_48 : decode cX1_setInflow 48 = .ok (.aload_n 0, 1) := by decide +kernel
theorem dX1_setInflow_49 : decode cX1_setInflow 49 = .ok (.getfield 13, 3) := by decide +kernel
theorem dX1_setInflow_52 : decode cX1_setInflow 52 = .ok (.iload_n 1, 1) := by decide +kernel
theorem dX1_setInflow_53 : decode cX1_setInflow 53 = .ok (.iload_n 2, 1) := by decide +kernel
theorem dX1_setInflow_54 : decode cX1_setInflow 54 = .ok (.iastore, 1) := by decide +kernel
theorem dX1_setInflow_55 : decode cX1_setInflow 55 = .ok (.aload_n 0, 1) := by decide +kernel
theorem dX1_setInflow_56 : decode cX1_setInflow 56 = .ok (.invokevirtual 55, 3) := by decide +kernel
theorem dX1_setInflow_59 : decode cX1_setInflow 59 = .ok (.iload_n 3, 1) := by decide +kernel
theorem dX1_setInflow_60 : decode cX1_setInflow 60 = .ok (.ireturn, 1) := by decide +kernel
set_option maxRecDepth 20000 in
theorem ggX1_setOutflow_X1_isArm : GoodIn wsX1_setOutflow wsX1_isArm := goodIn_r _ [7, 8, 9, 10, 6, 11, 19, 20, 21, 22, 23, 24, 25, 26, 27, 28, 29, 30, 31] (by decide +kernel) (by decide +kernel)
set_option maxRecDepth 20000 in
theorem gX1_setOutflow_X1_isArm : GoodIn wsX1_setOutflow (wsV RX1 58 RX1 yX1_isArm wsX1_isArm) := goodIn_app (goodIn_of _ (by decide +kernel)) ggX1_setOutflow_X1_isArm
set_option maxRecDepth 20000 in
theorem ggX1_setOutflow_X1_within : GoodIn wsX1_setOutflow wsX1_within := goodIn_r _ [11] (by decide +kernel) (by decide +kernel)
set_option maxRecDepth 20000 in
theorem gX1_setOutflow_X1_within : GoodIn wsX1_setOutflow (va_wsS RX1 48 yX1_within wsX1_within) := goodIn_app (goodIn_of _ (by decide +kernel)) ggX1_setOutflow_X1_within
set_option maxRecDepth 20000 in
theorem ggX1_setOutflow_X1_layWeights : GoodIn wsX1_setOutflow wsX1_layWeights := goodIn_ca (goodIn_r _ [15, 16, 17, 18, 19, 20, 21, 22, 23, 24, 25, 26, 27, 28, 29, 30, 31] (by decide +kernel) (by decide +kernel)) (goodIn_sub (fun _ h => List.mem_cons_of_mem _ (List.mem_append_right _ h)) (by decide +kernel))
set_option maxRecDepth 20000 in
theorem gX1_setOutflow_X1_layWeights : GoodIn wsX1_setOutflow (wsV RX1 55 RX1 yX1_layWeights wsX1_layWeights) := goodIn_app (goodIn_of _ (by decide +kernel)) ggX1_setOutflow_X1_layWeights
theorem dX1_setOutflow_0 : decode cX1_setOutflow 0 = .ok (.aload_n 0, 1) := by decide +kernel
theorem dX1_setOutflow_1 : decode cX1_setOutflow 1 = .ok (.aload_n 0, 1) := by decide +kernel
theorem dX1_setOutflow_2 : decode cX1_setOutflow 2 = .ok (.iload_n 1, 1) := by decide +kernel
theorem dX1_setOutflow_3 : decode cX1_setOutflow 3 = .ok (.invokevirtual 58, 3) := by decide +kernel
theorem dX1_setOutflow_6 : decode cX1_setOutflow 6 = .ok (.ifCond .ne 7, 3) := by decide +kernel
theorem dX1_setOutflow_9 : decode cX1_setOutflow 9 = .ok (.iconst 1, 1) := by decide +kernel
theorem dX1_setOutflow_10 : decode cX1_setOutflow 10 = .ok (.goto 19, 3) := by decide +kernel
theorem dX1_setOutflow_13 : decode cX1_setOutflow 13 = .ok (.iload_n 2, 1) := by decide +kernel
theorem dX1_setOutflow_14 : decode cX1_setOutflow 14 = .ok (.iconst 0, 1) := by decide +kernel
theorem dX1_setOutflow_15 : decode cX1_setOutflow 15 = .ok (.sipush 9999, 3) := by decide +kernel
theorem dX1_setOutflow_18 : decode cX1_setOutflow 18 = .ok (.invokestatic 48, 3) := by decide +kernel
theorem dX1_setOutflow_21 : decode cX1_setOutflow 21 = .ok (.ifCond .eq 7, 3) := by decide +kernel
theorem dX1_setOutflow_24 : decode cX1_setOutflow 24 = .ok (.iconst 0, 1) := by decide +kernel
theorem dX1_setOutflow_25 : decode cX1_setOutflow 25 = .ok (.goto 4, 3) := by decide +kernel
theorem dX1_setOutflow_28 : decode cX1_setOutflow 28 = .ok (.iconst 2, 1) := by decide +kernel
theorem dX1_setOutflow_29 : decode cX1_setOutflow 29 = .ok (.putfield 45, 3) := by decide +kernel
theorem dX1_setOutflow_32 : decode cX1_setOutflow 32 = .ok (.aload_n 0, 1) := by decide +kernel
theorem dX1_setOutflow_33 : decode cX1_setOutflow 33 = .ok (.getfield 45, 3) := by decide +kernel
theorem dX1_setOutflow_36 : decode cX1_setOutflow 36 = .ok (.ifCond .le 5, 3) := by decide +kernel
theorem dX1_setOutflow_39 : decode cX1_setOutflow 39 = .ok (.iconst 0, 1) := by decide +kernel
theorem dX1_setOutflow_40 : decode cX1_setOutflow 40 = .ok (.ireturn, 1) := by decide +kernel
theorem dX1_setOutflow_41 : decode cX1_setOutflow 41 = .ok (.aload_n 0, 1) := by decide +kernel
theorem dX1_setOutflow_42 : decode cX1_setOutflow 42 = .ok (.getfield 17, 3) := by decide +kernel
theorem dX1_setOutflow_45 : decode cX1_setOutflow 45 = .ok (.iload_n 1, 1) := by decide +kernel
theorem dX1_setOutflow_46 : decode cX1_setOutflow 46 = .ok (.iaload, 1) := by decide +kernel
theorem dX1_setOutflow_47 : decode cX1_setOutflow 47 = .ok (.istore_n 3, 1) := by decide +kernel
theorem dX1_setOutflow_48 : decode cX1_setOutflow 48 = .ok (.aload_n 0, 1) := by decide +kernel
theorem dX1_setOutflow_49 : decode cX1_setOutflow 49 = .ok (.getfield 17, 3) := by decide +kernel
theorem dX1_setOutflow_52 : decode cX1_setOutflow 52 = .ok (.iload_n 1, 1) := by decide +kernel
theorem dX1_setOutflow_53 : decode cX1_setOutflow 53 = .ok (.iload_n 2, 1) := by decide +kernel
theorem dX1_setOutflow_54 : decode cX1_setOutflow 54 = .ok (.iastore, 1) := by decide +kernel
theorem dX1_setOutflow_55 : decode cX1_setOutflow 55 = .ok (.aload_n 0, 1) := by decide +kernel
theorem dX1_setOutflow_56 : decode cX1_setOutflow 56 = .ok (.invokevirtual 55, 3) := by decide +kernel
theorem dX1_setOutflow_59 : decode cX1_setOutflow 59 = .ok (.iload_n 3, 1) := by decide +kernel
theorem dX1_setOutflow_60 : decode cX1_setOutflow 60 = .ok (.ireturn, 1) := by decide +kernel
set_option maxRecDepth 20000 in
theorem ggX1_setWeight_X1_isArm : GoodIn wsX1_setWeight wsX1_isArm := goodIn_r _ [7, 8, 9, 10, 6, 11, 18, 19, 20, 21, 22, 23, 24, 25, 26, 27, 28, 29, 30] (by decide +kernel) (by decide +kernel)
set_option maxRecDepth 20000 in
theorem gX1_setWeight_X1_isArm : GoodIn wsX1_setWeight (wsV RX1 58 RX1 yX1_isArm wsX1_isArm) := goodIn_app (goodIn_of _ (by decide +kernel)) ggX1_setWeight_X1_isArm
set_option maxRecDepth 20000 in
theorem ggX1_setWeight_X1_within : GoodIn wsX1_setWeight wsX1_within := goodIn_r _ [11] (by decide +kernel) (by decide +kernel)
set_option maxRecDepth 20000 in
theorem gX1_setWeight_X1_within : GoodIn wsX1_setWeight (va_wsS RX1 48 yX1_within wsX1_within) := goodIn_app (goodIn_of _ (by decide +kernel)) ggX1_setWeight_X1_within
set_option maxRecDepth 20000 in
theorem ggX1_setWeight_X1_layWeights : GoodIn wsX1_setWeight wsX1_layWeights := goodIn_ca (goodIn_r _ [15, 16, 2, 17, 18, 19, 20, 21, 22, 23, 24, 25, 26, 27, 28, 29, 30] (by decide +kernel) (by decide +kernel)) (goodIn_sub (fun _ h => List.mem_cons_of_mem _ (List.mem_append_right _ h)) (by decide +kernel))
set_option maxRecDepth 20000 in
theorem gX1_setWeight_X1_layWeights : GoodIn wsX1_setWeight (wsV RX1 55 RX1 yX1_layWeights wsX1_layWeights) := goodIn_app (goodIn_of _ (by decide +kernel)) ggX1_setWeight_X1_layWeights
theorem dX1_setWeight_0 : decode cX1_setWeight 0 = .ok (.aload_n 0, 1) := by decide +kernel
theorem dX1_setWeight_1 : decode cX1_setWeight 1 = .ok (.aload_n 0, 1) := by decide +kernel
theorem dX1_setWeight_2 : decode cX1_setWeight 2 = .ok (.iload_n 1, 1) := by decide +kernel
theorem dX1_setWeight_3 : decode cX1_setWeight 3 = .ok (.invokevirtual 58, 3) := by decide +kernel
theorem dX1_setWeight_6 : decode cX1_setWeight 6 = .ok (.ifCond .eq 11, 3) := by decide +kernel
theorem dX1_setWeight_9 : decode cX1_setWeight 9 = .ok (.aload_n 0, 1) := by decide +kernel
theorem dX1_setWeight_10 : decode cX1_setWeight 10 = .ok (.iload_n 2, 1) := by decide +kernel
theorem dX1_setWeight_11 : decode cX1_setWeight 11 = .ok (.invokevirtual 58, 3) := by decide +kernel
theorem dX1_setWeight_14 : decode cX1_setWeight 14 = .ok (.ifCond .ne 7, 3) := by decide +kernel
theorem dX1_setWeight_17 : decode cX1_setWeight 17 = .ok (.iconst 1, 1) := by decide +kernel
theorem dX1_setWeight_18 : decode cX1_setWeight 18 = .ok (.goto 18, 3) := by decide +kernel
theorem dX1_setWeight_21 : decode cX1_setWeight 21 = .ok (.iload_n 3, 1) := by decide +kernel
theorem dX1_setWeight_22 : decode cX1_setWeight 22 = .ok (.iconst 0, 1) := by decide +kernel
theorem dX1_setWeight_23 : decode cX1_setWeight 23 = .ok (.bipush 99, 2) := by decide +kernel
theorem dX1_setWeight_25 : decode cX1_setWeight 25 = .ok (.invokestatic 48, 3) := by decide +kernel
theorem dX1_setWeight_28 : decode cX1_setWeight 28 = .ok (.ifCond .eq 7, 3) := by decide +kernel
theorem dX1_setWeight_31 : decode cX1_setWeight 31 = .ok (.iconst 0, 1) := by decide +kernel
theorem dX1_setWeight_32 : decode cX1_setWeight 32 = .ok (.goto 4, 3) := by decide +kernel
theorem dX1_setWeight_35 : decode cX1_setWeight 35 = .ok (.iconst 2, 1) := by decide +kernel
theorem dX1_setWeight_36 : decode cX1_setWeight 36 = .ok (.putfield 45, 3) := by decide +kernel
theorem dX1_setWeight_39 : decode cX1_setWeight 39 = .ok (.aload_n 0, 1) := by decide +kernel
theorem dX1_setWeight_40 : decode cX1_setWeight 40 = .ok (.getfield 45, 3) := by decide +kernel
theorem dX1_setWeight_43 : decode cX1_setWeight 43 = .ok (.ifCond .le 5, 3) := by decide +kernel
theorem dX1_setWeight_46 : decode cX1_setWeight 46 = .ok (.iconst 0, 1) := by decide +kernel
theorem dX1_setWeight_47 : decode cX1_setWeight 47 = .ok (.ireturn, 1) := by decide +kernel
theorem dX1_setWeight_48 : decode cX1_setWeight 48 = .ok (.aload_n 0, 1) := by decide +kernel
theorem dX1_setWeight_49 : decode cX1_setWeight 49 = .ok (.getfield 20, 3) := by decide +kernel
theorem dX1_setWeight_52 : decode cX1_setWeight 52 = .ok (.bipush 6, 2) := by decide +kernel
theorem dX1_setWeight_54 : decode cX1_setWeight 54 = .ok (.iload_n 1, 1) := by decide +kernel
theorem dX1_setWeight_55 : decode cX1_setWeight 55 = .ok (.imul, 1) := by decide +kernel
theorem dX1_setWeight_56 : decode cX1_setWeight 56 = .ok (.iload_n 2, 1) := by decide +kernel
theorem dX1_setWeight_57 : decode cX1_setWeight 57 = .ok (.iadd, 1) := by decide +kernel
theorem dX1_setWeight_58 : decode cX1_setWeight 58 = .ok (.iaload, 1) := by decide +kernel
theorem dX1_setWeight_59 : decode cX1_setWeight 59 = .ok (.istore 4, 2) := by decide +kernel
theorem dX1_setWeight_61 : decode cX1_setWeight 61 = .ok (.aload_n 0, 1) := by decide +kernel
theorem dX1_setWeight_62 : decode cX1_setWeight 62 = .ok (.getfield 20, 3) := by decide +kernel
theorem dX1_setWeight_65 : decode cX1_setWeight 65 = .ok (.bipush 6, 2) := by decide +kernel
theorem dX1_setWeight_67 : decode cX1_setWeight 67 = .ok (.iload_n 1, 1) := by decide +kernel
theorem dX1_setWeight_68 : decode cX1_setWeight 68 = .ok (.imul, 1) := by decide +kernel
theorem dX1_setWeight_69 : decode cX1_setWeight 69 = .ok (.iload_n 2, 1) := by decide +kernel
theorem dX1_setWeight_70 : decode cX1_setWeight 70 = .ok (.iadd, 1) := by decide +kernel
theorem dX1_setWeight_71 : decode cX1_setWeight 71 = .ok (.iload_n 3, 1) := by decide +kernel
theorem dX1_setWeight_72 : decode cX1_setWeight 72 = .ok (.iastore, 1) := by decide +kernel
theorem dX1_setWeight_73 : decode cX1_setWeight 73 = .ok (.aload_n 0, 1) := by decide +kernel
theorem dX1_setWeight_74 : decode cX1_setWeight 74 = .ok (.invokevirtual 55, 3) := by decide +kernel
theorem dX1_setWeight_77 : decode cX1_setWeight 77 = .ok (.iload 4, 2) := by decide +kernel
theorem dX1_setWeight_79 : decode cX1_setWeight 79 = .ok (.ireturn, 1) := by decide +kernel
theorem dX1_scaled_0 : decode cX1_scaled 0 = .ok (.iload_n 0, 1) := by decide +kernel
theorem dX1_scaled_1 : decode cX1_scaled 1 = .ok (.iload_n 1, 1) := by decide +kernel
theorem dX1_scaled_2 : decode cX1_scaled 2 = .ok (.imul, 1) := by decide +kernel
theorem dX1_scaled_3 : decode cX1_scaled 3 = .ok (.bipush 50, 2) := by decide +kernel
theorem dX1_scaled_5 : decode cX1_scaled 5 = .ok (.iadd, 1) := by decide +kernel
theorem dX1_scaled_6 : decode cX1_scaled 6 = .ok (.bipush 100, 2) := by decide +kernel
theorem dX1_scaled_8 : decode cX1_scaled 8 = .ok (.idiv, 1) := by decide +kernel
theorem dX1_scaled_9 : decode cX1_scaled 9 = .ok (.ireturn, 1) := by decide +kernel
set_option maxRecDepth 20000 in
theorem ggX1_isScalable_X1_scaled : GoodIn wsX1_isScalable wsX1_scaled := goodIn_r _ [7] (by decide +kernel) (by decide +kernel)
set_option maxRecDepth 20000 in
theorem gX1_isScalable_X1_scaled : GoodIn wsX1_isScalable (va_wsS RX1 62 yX1_scaled wsX1_scaled) := goodIn_app (goodIn_of _ (by decide +kernel)) ggX1_isScalable_X1_scaled
theorem dX1_isScalable_0 : decode cX1_isScalable 0 = .ok (.iconst 1, 1) := by decide +kernel
theorem dX1_isScalable_1 : decode cX1_isScalable 1 = .ok (.istore_n 2, 1) := by decide +kernel
theorem dX1_isScalable_2 : decode cX1_isScalable 2 = .ok (.iconst 0, 1) := by decide +kernel
theorem dX1_isScalable_3 : decode cX1_isScalable 3 = .ok (.istore_n 3, 1) := by decide +kernel
theorem dX1_isScalable_4 : decode cX1_isScalable 4 = .ok (.iload_n 3, 1) := by decide +kernel
theorem dX1_isScalable_5 : decode cX1_isScalable 5 = .ok (.aload_n 0, 1) := by decide +kernel
theorem dX1_isScalable_6 : decode cX1_isScalable 6 = .ok (.getfield 7, 3) := by decide +kernel
theorem dX1_isScalable_9 : decode cX1_isScalable 9 = .ok (.if_icmp .ge 51, 3) := by decide +kernel
theorem dX1_isScalable_12 : decode cX1_isScalable 12 = .ok (.iload_n 2, 1) := by decide +kernel
theorem dX1_isScalable_13 : decode cX1_isScalable 13 = .ok (.ifCond .eq 39, 3) := by decide +kernel
theorem dX1_isScalable_16 : decode cX1_isScalable 16 = .ok (.aload_n 0, 1) := by decide +kernel
theorem dX1_isScalable_17 : decode cX1_isScalable 17 = .ok (.getfield 13, 3) := by decide +kernel
theorem dX1_isScalable_20 : decode cX1_isScalable 20 = .ok (.iload_n 3, 1) := by decide +kernel
theorem dX1_isScalable_21 : decode cX1_isScalable 21 = .ok (.iaload, 1) := by decide +kernel
theorem dX1_isScalable_22 : decode cX1_isScalable 22 = .ok (.iload_n 1, 1) := by decide +kernel
theorem dX1_isScalable_23 : decode cX1_isScalable 23 = .ok (.invokestatic 62, 3) := by decide +kernel
theorem dX1_isScalable_26 : decode cX1_isScalable 26 = .ok (.sipush 9999, 3) := by decide +kernel
theorem dX1_isScalable_29 : decode cX1_isScalable 29 = .ok (.if_icmp .gt 23, 3) := by decide +kernel
theorem dX1_isScalable_32 : decode cX1_isScalable 32 = .ok (.aload_n 0, 1) := by decide +kernel
theorem dX1_isScalable_33 : decode cX1_isScalable 33 = .ok (.getfield 17, 3) := by decide +kernel
theorem dX1_isScalable_36 : decode cX1_isScalable 36 = .ok (.iload_n 3, 1) := by decide +kernel
theorem dX1_isScalable_37 : decode cX1_isScalable 37 = .ok (.iaload, 1) := by decide +kernel
theorem dX1_isScalable_38 : decode cX1_isScalable 38 = .ok (.iload_n 1, 1) := by decide +kernel
theorem dX1_isScalable_39 : decode cX1_isScalable 39 = .ok (.invokestatic 62, 3) := by decide +kernel
theorem dX1_isScalable_42 : decode cX1_isScalable 42 = .ok (.sipush 9999, 3) := by decide +kernel
theorem dX1_isScalable_45 : decode cX1_isScalable 45 = .ok (.if_icmp .gt 7, 3) := by decide +kernel
theorem dX1_isScalable_48 : decode cX1_isScalable 48 = .ok (.iconst 1, 1) := by decide +kernel
theorem dX1_isScalable_49 : decode cX1_isScalable 49 = .ok (.goto 4, 3) := by decide +kernel
theorem dX1_isScalable_52 : decode cX1_isScalable 52 = .ok (.iconst 0, 1) := by decide +kernel
theorem dX1_isScalable_53 : decode cX1_isScalable 53 = .ok (.istore_n 2, 1) := by decide +kernel
theorem dX1_isScalable_54 : decode cX1_isScalable 54 = .ok (.iinc 3 1, 3) := by decide +kernel
theorem dX1_isScalable_57 : decode cX1_isScalable 57 = .ok (.goto (-53), 3) := by decide +kernel
theorem dX1_isScalable_60 : decode cX1_isScalable 60 = .ok (.iload_n 2, 1) := by decide +kernel
theorem dX1_isScalable_61 : decode cX1_isScalable 61 = .ok (.ireturn, 1) := by decide +kernel
set_option maxRecDepth 20000 in
theorem ggX1_scale_X1_within : GoodIn wsX1_scale wsX1_within := goodIn_r _ [8] (by decide +kernel) (by decide +kernel)
set_option maxRecDepth 20000 in
theorem gX1_scale_X1_within : GoodIn wsX1_scale (va_wsS RX1 48 yX1_within wsX1_within) := goodIn_app (goodIn_of _ (by decide +kernel)) ggX1_scale_X1_within
set_option maxRecDepth 20000 in
theorem ggX1_scale_X1_isScalable : GoodIn wsX1_scale wsX1_isScalable := goodIn_ca (goodIn_r _ [12, 2, 3, 4, 13, 14, 7, 15, 23, 24, 25, 26, 27, 28, 29, 30, 31, 32, 33, 34, 35] (by decide +kernel) (by decide +kernel)) (goodIn_sub (fun _ h => List.mem_cons_of_mem _ (List.mem_append_right _ h)) (by decide +kernel))
set_option maxRecDepth 20000 in
theorem gX1_scale_X1_isScalable : GoodIn wsX1_scale (wsV RX1 66 RX1 yX1_isScalable wsX1_isScalable) := goodIn_app (goodIn_of _ (by decide +kernel)) ggX1_scale_X1_isScalable
set_option maxRecDepth 20000 in
theorem ggX1_scale_X1_scaled : GoodIn wsX1_scale wsX1_scaled := goodIn_r _ [15] (by decide +kernel) (by decide +kernel)
set_option maxRecDepth 20000 in
theorem gX1_scale_X1_scaled : GoodIn wsX1_scale (va_wsS RX1 62 yX1_scaled wsX1_scaled) := goodIn_app (goodIn_of _ (by decide +kernel)) ggX1_scale_X1_scaled
set_option maxRecDepth 20000 in
theorem ggX1_scale_X1_layWeights : GoodIn wsX1_scale wsX1_layWeights := goodIn_ca (goodIn_r _ [19, 20, 21, 22, 23, 24, 25, 26, 27, 28, 29, 30, 31, 32, 33, 34, 35] (by decide +kernel) (by decide +kernel)) (goodIn_sub (fun _ h => List.mem_cons_of_mem _ (List.mem_append_right _ h)) (by decide +kernel))
set_option maxRecDepth 20000 in
theorem gX1_scale_X1_layWeights : GoodIn wsX1_scale (wsV RX1 55 RX1 yX1_layWeights wsX1_layWeights) := goodIn_app (goodIn_of _ (by decide +kernel)) ggX1_scale_X1_layWeights
theorem dX1_scale_0 : decode cX1_scale 0 = .ok (.aload_n 0, 1) := by decide +kernel
theorem dX1_scale_1 : decode cX1_scale 1 = .ok (.iload_n 1, 1) := by decide +kernel
theorem dX1_scale_2 : decode cX1_scale 2 = .ok (.iconst 0, 1) := by decide +kernel
theorem dX1_scale_3 : decode cX1_scale 3 = .ok (.sipush 300, 3) := by decide +kernel
theorem dX1_scale_6 : decode cX1_scale 6 = .ok (.invokestatic 48, 3) := by decide +kernel
theorem dX1_scale_9 : decode cX1_scale 9 = .ok (.ifCond .ne 7, 3) := by decide +kernel
theorem dX1_scale_12 : decode cX1_scale 12 = .ok (.iconst 1, 1) := by decide +kernel
theorem dX1_scale_13 : decode cX1_scale 13 = .ok (.goto 16, 3) := by decide +kernel
theorem dX1_scale_16 : decode cX1_scale 16 = .ok (.aload_n 0, 1) := by decide +kernel
theorem dX1_scale_17 : decode cX1_scale 17 = .ok (.iload_n 1, 1) := by decide +kernel
theorem dX1_scale_18 : decode cX1_scale 18 = .ok (.invokevirtual 66, 3) := by decide +kernel
theorem dX1_scale_21 : decode cX1_scale 21 = .ok (.ifCond .eq 7, 3) := by decide +kernel
theorem dX1_scale_24 : decode cX1_scale 24 = .ok (.iconst 0, 1) := by decide +kernel
theorem dX1_scale_25 : decode cX1_scale 25 = .ok (.goto 4, 3) := by decide +kernel
theorem dX1_scale_28 : decode cX1_scale 28 = .ok (.iconst 2, 1) := by decide +kernel
theorem dX1_scale_29 : decode cX1_scale 29 = .ok (.putfield 45, 3) := by decide +kernel
theorem dX1_scale_32 : decode cX1_scale 32 = .ok (.aload_n 0, 1) := by decide +kernel
theorem dX1_scale_33 : decode cX1_scale 33 = .ok (.getfield 45, 3) := by decide +kernel
theorem dX1_scale_36 : decode cX1_scale 36 = .ok (.ifCond .le 5, 3) := by decide +kernel
theorem dX1_scale_39 : decode cX1_scale 39 = .ok (.iconst 0, 1) := by decide +kernel
theorem dX1_scale_40 : decode cX1_scale 40 = .ok (.ireturn, 1) := by decide +kernel
theorem dX1_scale_41 : decode cX1_scale 41 = .ok (.iconst 0, 1) := by decide +kernel
theorem dX1_scale_42 : decode cX1_scale 42 = .ok (.istore_n 2, 1) := by decide +kernel
theorem dX1_scale_43 : decode cX1_scale 43 = .ok (.iconst 0, 1) := by decide +kernel
theorem dX1_scale_44 : decode cX1_scale 44 = .ok (.istore_n 3, 1) := by decide +kernel
theorem dX1_scale_45 : decode cX1_scale 45 = .ok (.iload_n 3, 1) := by decide +kernel
theorem dX1_scale_46 : decode cX1_scale 46 = .ok (.aload_n 0, 1) := by decide +kernel
theorem dX1_scale_47 : decode cX1_scale 47 = .ok (.getfield 7, 3) := by decide +kernel
theorem dX1_scale_50 : decode cX1_scale 50 = .ok (.if_icmp .ge 50, 3) := by decide +kernel
theorem dX1_scale_53 : decode cX1_scale 53 = .ok (.aload_n 0, 1) := by decide +kernel
theorem dX1_scale_54 : decode cX1_scale 54 = .ok (.getfield 13, 3) := by decide +kernel
theorem dX1_scale_57 : decode cX1_scale 57 = .ok (.iload_n 3, 1) := by decide +kernel
theorem dX1_scale_58 : decode cX1_scale 58 = .ok (.aload_n 0, 1) := by decide +kernel
theorem dX1_scale_59 : decode cX1_scale 59 = .ok (.getfield 13, 3) := by decide +kernel
theorem dX1_scale_62 : decode cX1_scale 62 = .ok (.iload_n 3, 1) := by decide +kernel
theorem dX1_scale_63 : decode cX1_scale 63 = .ok (.iaload, 1) := by decide +kernel
theorem dX1_scale_64 : decode cX1_scale 64 = .ok (.iload_n 1, 1) := by decide +kernel
theorem dX1_scale_65 : decode cX1_scale 65 = .ok (.invokestatic 62, 3) := by decide +kernel
theorem dX1_scale_68 : decode cX1_scale 68 = .ok (.iastore, 1) := by decide +kernel
theorem dX1_scale_69 : decode cX1_scale 69 = .ok (.aload_n 0, 1) := by decide +kernel
theorem dX1_scale_70 : decode cX1_scale 70 = .ok (.getfield 17, 3) := by decide +kernel
theorem dX1_scale_73 : decode cX1_scale 73 = .ok (.iload_n 3, 1) := by decide +kernel
theorem dX1_scale_74 : decode cX1_scale 74 = .ok (.aload_n 0, 1) := by decide +kernel
theorem dX1_scale_75 : decode cX1_scale 75 = .ok (.getfield 17, 3) := by decide +kernel
theorem dX1_scale_78 : decode cX1_scale 78 = .ok (.iload_n 3, 1) := by decide +kernel
theorem dX1_scale_79 : decode cX1_scale 79 = .ok (.iaload, 1) := by decide +kernel
theorem dX1_scale_80 : decode cX1_scale 80 = .ok (.iload_n 1, 1) := by decide +kernel
theorem dX1_scale_81 : decode cX1_scale 81 = .ok (.invokestatic 62, 3) := by decide +kernel
theorem dX1_scale_84 : decode cX1_scale 84 = .ok (.iastore, 1) := by decide +kernel
theorem dX1_scale_85 : decode cX1_scale 85 = .ok (.iload_n 2, 1) := by decide +kernel
theorem dX1_scale_86 : decode cX1_scale 86 = .ok (.aload_n 0, 1) := by decide +kernel
theorem dX1_scale_87 : decode cX1_scale 87 = .ok (.getfield 13, 3) := by decide +kernel
theorem dX1_scale_90 : decode cX1_scale 90 = .ok (.iload_n 3, 1) := by decide +kernel
theorem dX1_scale_91 : decode cX1_scale 91 = .ok (.iaload, 1) := by decide +kernel
theorem dX1_scale_92 : decode cX1_scale 92 = .ok (.iadd, 1) := by decide +kernel
theorem dX1_scale_93 : decode cX1_scale 93 = .ok (.istore_n 2, 1) := by decide +kernel
theorem dX1_scale_94 : decode cX1_scale 94 = .ok (.iinc 3 1, 3) := by decide +kernel
theorem dX1_scale_97 : decode cX1_scale 97 = .ok (.goto (-52), 3) := by decide +kernel
theorem dX1_scale_100 : decode cX1_scale 100 = .ok (.aload_n 0, 1) := by decide +kernel
theorem dX1_scale_101 : decode cX1_scale 101 = .ok (.invokevirtual 55, 3) := by decide +kernel
theorem dX1_scale_104 : decode cX1_scale 104 = .ok (.iload_n 2, 1) := by decide +kernel
theorem dX1_scale_105 : decode cX1_scale 105 = .ok (.ireturn, 1) := by decide +kernel
theorem dX1_difference_0 : decode cX1_difference 0 = .ok (.iconst 0, 1) := by decide +kernel
theorem dX1_difference_1 : decode cX1_difference 1 = .ok (.istore_n 1, 1) := by decide +kernel
theorem dX1_difference_2 : decode cX1_difference 2 = .ok (.iconst 0, 1) := by decide +kernel
theorem dX1_difference_3 : decode cX1_difference 3 = .ok (.istore_n 2, 1) := by decide +kernel
theorem dX1_difference_4 : decode cX1_difference 4 = .ok (.iload_n 2, 1) := by decide +kernel
theorem dX1_difference_5 : decode cX1_difference 5 = .ok (.aload_n 0, 1) := by decide +kernel
theorem dX1_difference_6 : decode cX1_difference 6 = .ok (.getfield 7, 3) := by decide +kernel
theorem dX1_difference_9 : decode cX1_difference 9 = .ok (.if_icmp .ge 25, 3) := by decide +kernel
theorem dX1_difference_12 : decode cX1_difference 12 = .ok (.iload_n 1, 1) := by decide +kernel
theorem dX1_difference_13 : decode cX1_difference 13 = .ok (.aload_n 0, 1) := by decide +kernel
theorem dX1_difference_14 : decode cX1_difference 14 = .ok (.getfield 13, 3) := by decide +kernel
theorem dX1_difference_17 : decode cX1_difference 17 = .ok (.iload_n 2, 1) := by decide +kernel
theorem dX1_difference_18 : decode cX1_difference 18 = .ok (.iaload, 1) := by decide +kernel
theorem dX1_difference_19 : decode cX1_difference 19 = .ok (.aload_n 0, 1) := by decide +kernel
theorem dX1_difference_20 : decode cX1_difference 20 = .ok (.getfield 17, 3) := by decide +kernel
theorem dX1_difference_23 : decode cX1_difference 23 = .ok (.iload_n 2, 1) := by decide +kernel
theorem dX1_difference_24 : decode cX1_difference 24 = .ok (.iaload, 1) := by decide +kernel
theorem dX1_difference_25 : decode cX1_difference 25 = .ok (.isub, 1) := by decide +kernel
theorem dX1_difference_26 : decode cX1_difference 26 = .ok (.iadd, 1) := by decide +kernel
theorem dX1_difference_27 : decode cX1_difference 27 = .ok (.istore_n 1, 1) := by decide +kernel
theorem dX1_difference_28 : decode cX1_difference 28 = .ok (.iinc 2 1, 3) := by decide +kernel
theorem dX1_difference_31 : decode cX1_difference 31 = .ok (.goto (-27), 3) := by decide +kernel
theorem dX1_difference_34 : decode cX1_difference 34 = .ok (.iload_n 1, 1) := by decide +kernel
theorem dX1_difference_35 : decode cX1_difference 35 = .ok (.ireturn, 1) := by decide +kernel
set_option maxRecDepth 20000 in
theorem ggX1_imbalance_X1_difference : GoodIn wsX1_imbalance wsX1_difference := goodIn_ca (goodIn_r _ [6, 7, 8, 9, 10, 11, 12, 13, 14, 15, 16, 17, 18, 19, 20, 21, 22] (by decide +kernel) (by decide +kernel)) (goodIn_sub (fun _ h => List.mem_cons_of_mem _ (List.mem_append_right _ h)) (by decide +kernel))
set_option maxRecDepth 20000 in
theorem gX1_imbalance_X1_difference : GoodIn wsX1_imbalance (wsV RX1 69 RX1 yX1_difference wsX1_difference) := goodIn_app (goodIn_of _ (by decide +kernel)) ggX1_imbalance_X1_difference
theorem dX1_imbalance_0 : decode cX1_imbalance 0 = .ok (.aload_n 0, 1) := by decide +kernel
theorem dX1_imbalance_1 : decode cX1_imbalance 1 = .ok (.iconst 0, 1) := by decide +kernel
theorem dX1_imbalance_2 : decode cX1_imbalance 2 = .ok (.putfield 45, 3) := by decide +kernel
theorem dX1_imbalance_5 : decode cX1_imbalance 5 = .ok (.aload_n 0, 1) := by decide +kernel
theorem dX1_imbalance_6 : decode cX1_imbalance 6 = .ok (.invokevirtual 69, 3) := by decide +kernel
theorem dX1_imbalance_9 : decode cX1_imbalance 9 = .ok (.ireturn, 1) := by decide +kernel
theorem dX1_excessOf_0 : decode cX1_excessOf 0 = .ok (.iconst 0, 1) := by decide +kernel
theorem dX1_excessOf_1 : decode cX1_excessOf 1 = .ok (.istore_n 2, 1) := by decide +kernel
theorem dX1_excessOf_2 : decode cX1_excessOf 2 = .ok (.iconst 0, 1) := by decide +kernel
theorem dX1_excessOf_3 : decode cX1_excessOf 3 = .ok (.istore_n 3, 1) := by decide +kernel
theorem dX1_excessOf_4 : decode cX1_excessOf 4 = .ok (.iload_n 3, 1) := by decide +kernel
theorem dX1_excessOf_5 : decode cX1_excessOf 5 = .ok (.aload_n 0, 1) := by decide +kernel
theorem dX1_excessOf_6 : decode cX1_excessOf 6 = .ok (.getfield 7, 3) := by decide +kernel
theorem dX1_excessOf_9 : decode cX1_excessOf 9 = .ok (.if_icmp .ge 107, 3) := by decide +kernel
theorem dX1_excessOf_12 : decode cX1_excessOf 12 = .ok (.iconst 0, 1) := by decide +kernel
theorem dX1_excessOf_13 : decode cX1_excessOf 13 = .ok (.istore 4, 2) := by decide +kernel
theorem dX1_excessOf_15 : decode cX1_excessOf 15 = .ok (.iconst 0, 1) := by decide +kernel
theorem dX1_excessOf_16 : decode cX1_excessOf 16 = .ok (.istore 5, 2) := by decide +kernel
theorem dX1_excessOf_18 : decode cX1_excessOf 18 = .ok (.iload 5, 2) := by decide +kernel
theorem dX1_excessOf_20 : decode cX1_excessOf 20 = .ok (.aload_n 0, 1) := by decide +kernel
theorem dX1_excessOf_21 : decode cX1_excessOf 21 = .ok (.getfield 7, 3) := by decide +kernel
theorem dX1_excessOf_24 : decode cX1_excessOf 24 = .ok (.if_icmp .ge 46, 3) := by decide +kernel
theorem dX1_excessOf_27 : decode cX1_excessOf 27 = .ok (.iload 4, 2) := by decide +kernel
theorem dX1_excessOf_29 : decode cX1_excessOf 29 = .ok (.ifCond .ne 28, 3) := by decide +kernel
theorem dX1_excessOf_32 : decode cX1_excessOf 32 = .ok (.iload_n 1, 1) := by decide +kernel
theorem dX1_excessOf_33 : decode cX1_excessOf 33 = .ok (.iload 5, 2) := by decide +kernel
theorem dX1_excessOf_35 : decode cX1_excessOf 35 = .ok (.ishr, 1) := by decide +kernel
theorem dX1_excessOf_36 : decode cX1_excessOf 36 = .ok (.iconst 1, 1) := by decide +kernel
theorem dX1_excessOf_37 : decode cX1_excessOf 37 = .ok (.iand, 1) := by decide +kernel
theorem dX1_excessOf_38 : decode cX1_excessOf 38 = .ok (.iconst 1, 1) := by decide +kernel
theorem dX1_excessOf_39 : decode cX1_excessOf 39 = .ok (.if_icmp .ne 22, 3) := by decide +kernel
theorem dX1_excessOf_42 : decode cX1_excessOf 42 = .ok (.aload_n 0, 1) := by decide +kernel
theorem dX1_excessOf_43 : decode cX1_excessOf 43 = .ok (.getfield 20, 3) := by decide +kernel
theorem dX1_excessOf_46 : decode cX1_excessOf 46 = .ok (.bipush 6, 2) := by decide +kernel
theorem dX1_excessOf_48 : decode cX1_excessOf 48 = .ok (.iload 5, 2) := by decide +kernel
theorem dX1_excessOf_50 : decode cX1_excessOf 50 = .ok (.imul, 1) := by decide +kernel
theorem dX1_excessOf_51 : decode cX1_excessOf 51 = .ok (.iload_n 3, 1) := by decide +kernel
theorem dX1_excessOf_52 : decode cX1_excessOf 52 = .ok (.iadd, 1) := by decide +kernel
theorem dX1_excessOf_53 : decode cX1_excessOf 53 = .ok (.iaload, 1) := by decide +kernel
theorem dX1_excessOf_54 : decode cX1_excessOf 54 = .ok (.ifCond .le 7, 3) := by decide +kernel
theorem dX1_excessOf_57 : decode cX1_excessOf 57 = .ok (.iconst 1, 1) := by decide +kernel
theorem dX1_excessOf_58 : decode cX1_excessOf 58 = .ok (.goto 4, 3) := by decide +kernel
theorem dX1_excessOf_61 : decode cX1_excessOf 61 = .ok (.iconst 0, 1) := by decide +kernel
theorem dX1_excessOf_62 : decode cX1_excessOf 62 = .ok (.istore 4, 2) := by decide +kernel
theorem dX1_excessOf_64 : decode cX1_excessOf 64 = .ok (.iinc 5 1, 3) := by decide +kernel
theorem dX1_excessOf_67 : decode cX1_excessOf 67 = .ok (.goto (-49), 3) := by decide +kernel
theorem dX1_excessOf_70 : decode cX1_excessOf 70 = .ok (.iload_n 2, 1) := by decide +kernel
theorem dX1_excessOf_71 : decode cX1_excessOf 71 = .ok (.iload_n 1, 1) := by decide +kernel
theorem dX1_excessOf_72 : decode cX1_excessOf 72 = .ok (.iload_n 3, 1) := by decide +kernel
theorem dX1_excessOf_73 : decode cX1_excessOf 73 = .ok (.ishr, 1) := by decide +kernel
theorem dX1_excessOf_74 : decode cX1_excessOf 74 = .ok (.iconst 1, 1) := by decide +kernel
theorem dX1_excessOf_75 : decode cX1_excessOf 75 = .ok (.iand, 1) := by decide +kernel
theorem dX1_excessOf_76 : decode cX1_excessOf 76 = .ok (.iconst 1, 1) := by decide +kernel
theorem dX1_excessOf_77 : decode cX1_excessOf 77 = .ok (.if_icmp .ne 12, 3) := by decide +kernel
theorem dX1_excessOf_80 : decode cX1_excessOf 80 = .ok (.aload_n 0, 1) := by decide +kernel
theorem dX1_excessOf_81 : decode cX1_excessOf 81 = .ok (.getfield 13, 3) := by decide +kernel
theorem dX1_excessOf_84 : decode cX1_excessOf 84 = .ok (.iload_n 3, 1) := by decide +kernel
theorem dX1_excessOf_85 : decode cX1_excessOf 85 = .ok (.iaload, 1) := by decide +kernel
theorem dX1_excessOf_86 : decode cX1_excessOf 86 = .ok (.goto 4, 3) := by decide +kernel
theorem dX1_excessOf_89 : decode cX1_excessOf 89 = .ok (.iconst 0, 1) := by decide +kernel
theorem dX1_excessOf_90 : decode cX1_excessOf 90 = .ok (.iadd, 1) := by decide +kernel
theorem dX1_excessOf_91 : decode cX1_excessOf 91 = .ok (.istore_n 2, 1) := by decide +kernel
theorem dX1_excessOf_92 : decode cX1_excessOf 92 = .ok (.iload_n 2, 1) := by decide +kernel
theorem dX1_excessOf_93 : decode cX1_excessOf 93 = .ok (.iload 4, 2) := by decide +kernel
theorem dX1_excessOf_95 : decode cX1_excessOf 95 = .ok (.ifCond .eq 12, 3) := by decide +kernel
theorem dX1_excessOf_98 : decode cX1_excessOf 98 = .ok (.aload_n 0, 1) := by decide +kernel
theorem dX1_excessOf_99 : decode cX1_excessOf 99 = .ok (.getfield 17, 3) := by decide +kernel
theorem dX1_excessOf_102 : decode cX1_excessOf 102 = .ok (.iload_n 3, 1) := by decide +kernel
theorem dX1_excessOf_103 : decode cX1_excessOf 103 = .ok (.iaload, 1) := by decide +kernel
theorem dX1_excessOf_104 : decode cX1_excessOf 104 = .ok (.goto 4, 3) := by decide +kernel
theorem dX1_excessOf_107 : decode cX1_excessOf 107 = .ok (.iconst 0, 1) := by decide +kernel
theorem dX1_excessOf_108 : decode cX1_excessOf 108 = .ok (.isub, 1) := by decide +kernel
theorem dX1_excessOf_109 : decode cX1_excessOf 109 = .ok (.istore_n 2, 1) := by decide +kernel
theorem dX1_excessOf_110 : decode cX1_excessOf 110 = .ok (.iinc 3 1, 3) := by decide +kernel
theorem dX1_excessOf_113 : decode cX1_excessOf 113 = .ok (.goto (-109), 3) := by decide +kernel
theorem dX1_excessOf_116 : decode cX1_excessOf 116 = .ok (.iload_n 2, 1) := by decide +kernel
theorem dX1_excessOf_117 : decode cX1_excessOf 117 = .ok (.ireturn, 1) := by decide +kernel
set_option maxRecDepth 20000 in
theorem ggX1_crowded_X1_excessOf : GoodIn wsX1_crowded wsX1_excessOf := goodIn_ca (goodIn_r _ [6, 1, 7, 8, 9, 10, 11, 12, 13, 14, 15, 16, 17, 18, 19, 20, 21, 22] (by decide +kernel) (by decide +kernel)) (goodIn_sub (fun _ h => List.mem_cons_of_mem _ (List.mem_append_right _ h)) (by decide +kernel))
set_option maxRecDepth 20000 in
theorem gX1_crowded_X1_excessOf : GoodIn wsX1_crowded (wsV RX1 73 RX1 yX1_excessOf wsX1_excessOf) := goodIn_app (goodIn_of _ (by decide +kernel)) ggX1_crowded_X1_excessOf
theorem dX1_crowded_0 : decode cX1_crowded 0 = .ok (.iconst 1, 1) := by decide +kernel
theorem dX1_crowded_1 : decode cX1_crowded 1 = .ok (.istore_n 1, 1) := by decide +kernel
theorem dX1_crowded_2 : decode cX1_crowded 2 = .ok (.iload_n 1, 1) := by decide +kernel
theorem dX1_crowded_3 : decode cX1_crowded 3 = .ok (.iconst 1, 1) := by decide +kernel
theorem dX1_crowded_4 : decode cX1_crowded 4 = .ok (.aload_n 0, 1) := by decide +kernel
theorem dX1_crowded_5 : decode cX1_crowded 5 = .ok (.getfield 7, 3) := by decide +kernel
theorem dX1_crowded_8 : decode cX1_crowded 8 = .ok (.ishl, 1) := by decide +kernel
theorem dX1_crowded_9 : decode cX1_crowded 9 = .ok (.if_icmp .ge 19, 3) := by decide +kernel
theorem dX1_crowded_12 : decode cX1_crowded 12 = .ok (.aload_n 0, 1) := by decide +kernel
theorem dX1_crowded_13 : decode cX1_crowded 13 = .ok (.iload_n 1, 1) := by decide +kernel
theorem dX1_crowded_14 : decode cX1_crowded 14 = .ok (.invokevirtual 73, 3) := by decide +kernel
theorem dX1_crowded_17 : decode cX1_crowded 17 = .ok (.ifCond .le 5, 3) := by decide +kernel
theorem dX1_crowded_20 : decode cX1_crowded 20 = .ok (.iload_n 1, 1) := by decide +kernel
theorem dX1_crowded_21 : decode cX1_crowded 21 = .ok (.ireturn, 1) := by decide +kernel
theorem dX1_crowded_22 : decode cX1_crowded 22 = .ok (.iinc 1 1, 3) := by decide +kernel
theorem dX1_crowded_25 : decode cX1_crowded 25 = .ok (.goto (-23), 3) := by decide +kernel
theorem dX1_crowded_28 : decode cX1_crowded 28 = .ok (.iconst (-1), 1) := by decide +kernel
theorem dX1_crowded_29 : decode cX1_crowded 29 = .ok (.ireturn, 1) := by decide +kernel
set_option maxRecDepth 20000 in
theorem ggX1_arePossible_X1_difference : GoodIn wsX1_arePossible wsX1_difference := goodIn_ca (goodIn_r _ [5, 6, 7, 8, 18, 19, 20, 21, 22, 23, 24, 25, 26, 27, 28, 29, 30] (by decide +kernel) (by decide +kernel)) (goodIn_sub (fun _ h => List.mem_cons_of_mem _ (List.mem_append_right _ h)) (by decide +kernel))
set_option maxRecDepth 20000 in
theorem gX1_arePossible_X1_difference : GoodIn wsX1_arePossible (wsV RX1 69 RX1 yX1_difference wsX1_difference) := goodIn_app (goodIn_of _ (by decide +kernel)) ggX1_arePossible_X1_difference
set_option maxRecDepth 20000 in
theorem ggX1_arePossible_X1_crowded : GoodIn wsX1_arePossible wsX1_crowded := goodIn_ca (goodIn_r _ [12, 6, 13, 14, 15, 4, 16, 17, 7, 8, 18, 19, 20, 21, 22, 23, 24, 25, 26, 27, 28, 29, 30] (by decide +kernel) (by decide +kernel)) (goodIn_sub (fun _ h => List.mem_cons_of_mem _ (List.mem_append_right _ h)) (by decide +kernel))
set_option maxRecDepth 20000 in
theorem gX1_arePossible_X1_crowded : GoodIn wsX1_arePossible (wsV RX1 77 RX1 yX1_crowded wsX1_crowded) := goodIn_app (goodIn_of _ (by decide +kernel)) ggX1_arePossible_X1_crowded
theorem dX1_arePossible_0 : decode cX1_arePossible 0 = .ok (.aload_n 0, 1) := by decide +kernel
theorem dX1_arePossible_1 : decode cX1_arePossible 1 = .ok (.invokevirtual 69, 3) := by decide +kernel
theorem dX1_arePossible_4 : decode cX1_arePossible 4 = .ok (.ifCond .ne 15, 3) := by decide +kernel
theorem dX1_arePossible_7 : decode cX1_arePossible 7 = .ok (.aload_n 0, 1) := by decide +kernel
theorem dX1_arePossible_8 : decode cX1_arePossible 8 = .ok (.invokevirtual 77, 3) := by decide +kernel
theorem dX1_arePossible_11 : decode cX1_arePossible 11 = .ok (.iconst (-1), 1) := by decide +kernel
theorem dX1_arePossible_12 : decode cX1_arePossible 12 = .ok (.if_icmp .ne 7, 3) := by decide +kernel
theorem dX1_arePossible_15 : decode cX1_arePossible 15 = .ok (.iconst 1, 1) := by decide +kernel
theorem dX1_arePossible_16 : decode cX1_arePossible 16 = .ok (.goto 4, 3) := by decide +kernel
theorem dX1_arePossible_19 : decode cX1_arePossible 19 = .ok (.iconst 0, 1) := by decide +kernel
theorem dX1_arePossible_20 : decode cX1_arePossible 20 = .ok (.ireturn, 1) := by decide +kernel
set_option maxRecDepth 20000 in
theorem ggX1_isPossible_X1_arePossible : GoodIn wsX1_isPossible wsX1_arePossible := goodIn_ca (goodIn_r _ [6, 7, 8, 9, 5, 10, 11, 12, 13, 14, 15, 16, 17, 18, 19, 20, 21, 22, 23, 24, 25, 26, 27, 28, 29, 30, 31, 32, 33, 34, 35] (by decide +kernel) (by decide +kernel)) (goodIn_sub (fun _ h => List.mem_cons_of_mem _ (List.mem_append_right _ h)) (by decide +kernel))
set_option maxRecDepth 20000 in
theorem gX1_isPossible_X1_arePossible : GoodIn wsX1_isPossible (wsV RX1 80 RX1 yX1_arePossible wsX1_arePossible) := goodIn_app (goodIn_of _ (by decide +kernel)) ggX1_isPossible_X1_arePossible
theorem dX1_isPossible_0 : decode cX1_isPossible 0 = .ok (.aload_n 0, 1) := by decide +kernel
theorem dX1_isPossible_1 : decode cX1_isPossible 1 = .ok (.iconst 0, 1) := by decide +kernel
theorem dX1_isPossible_2 : decode cX1_isPossible 2 = .ok (.putfield 45, 3) := by decide +kernel
theorem dX1_isPossible_5 : decode cX1_isPossible 5 = .ok (.aload_n 0, 1) := by decide +kernel
theorem dX1_isPossible_6 : decode cX1_isPossible 6 = .ok (.invokevirtual 80, 3) := by decide +kernel
theorem dX1_isPossible_9 : decode cX1_isPossible 9 = .ok (.ireturn, 1) := by decide +kernel
set_option maxRecDepth 20000 in
theorem ggX1_crowdedSet_X1_crowded : GoodIn wsX1_crowdedSet wsX1_crowded := goodIn_ca (goodIn_r _ [6, 7, 8, 9, 10, 5, 11, 12, 13, 14, 15, 16, 17, 18, 19, 20, 21, 22, 23, 24, 25, 26, 27] (by decide +kernel) (by decide +kernel)) (goodIn_sub (fun _ h => List.mem_cons_of_mem _ (List.mem_append_right _ h)) (by decide +kernel))
set_option maxRecDepth 20000 in
theorem gX1_crowdedSet_X1_crowded : GoodIn wsX1_crowdedSet (wsV RX1 77 RX1 yX1_crowded wsX1_crowded) := goodIn_app (goodIn_of _ (by decide +kernel)) ggX1_crowdedSet_X1_crowded
theorem dX1_crowdedSet_0 : decode cX1_crowdedSet 0 = .ok (.aload_n 0, 1) := by decide +kernel
theorem dX1_crowdedSet_1 : decode cX1_crowdedSet 1 = .ok (.iconst 0, 1) := by decide +kernel
theorem dX1_crowdedSet_2 : decode cX1_crowdedSet 2 = .ok (.putfield 45, 3) := by decide +kernel
theorem dX1_crowdedSet_5 : decode cX1_crowdedSet 5 = .ok (.aload_n 0, 1) := by decide +kernel
theorem dX1_crowdedSet_6 : decode cX1_crowdedSet 6 = .ok (.invokevirtual 77, 3) := by decide +kernel
theorem dX1_crowdedSet_9 : decode cX1_crowdedSet 9 = .ok (.ireturn, 1) := by decide +kernel
set_option maxRecDepth 20000 in
theorem ggX1_excess_X1_within : GoodIn wsX1_excess wsX1_within := goodIn_r _ [6] (by decide +kernel) (by decide +kernel)
set_option maxRecDepth 20000 in
theorem gX1_excess_X1_within : GoodIn wsX1_excess (va_wsS RX1 48 yX1_within wsX1_within) := goodIn_app (goodIn_of _ (by decide +kernel)) ggX1_excess_X1_within
set_option maxRecDepth 20000 in
theorem ggX1_excess_X1_excessOf : GoodIn wsX1_excess wsX1_excessOf := goodIn_ca (goodIn_r _ [10, 1, 11, 12, 13, 14, 15, 16, 17, 18, 19, 20, 21, 22, 23, 24, 25, 26] (by decide +kernel) (by decide +kernel)) (goodIn_sub (fun _ h => List.mem_cons_of_mem _ (List.mem_append_right _ h)) (by decide +kernel))
set_option maxRecDepth 20000 in
theorem gX1_excess_X1_excessOf : GoodIn wsX1_excess (wsV RX1 73 RX1 yX1_excessOf wsX1_excessOf) := goodIn_app (goodIn_of _ (by decide +kernel)) ggX1_excess_X1_excessOf
theorem dX1_excess_0 : decode cX1_excess 0 = .ok (.aload_n 0, 1) := by decide +kernel
theorem dX1_excess_1 : decode cX1_excess 1 = .ok (.iload_n 1, 1) := by decide +kernel
theorem dX1_excess_2 : decode cX1_excess 2 = .ok (.iconst 0, 1) := by decide +kernel
theorem dX1_excess_3 : decode cX1_excess 3 = .ok (.iconst 1, 1) := by decide +kernel
theorem dX1_excess_4 : decode cX1_excess 4 = .ok (.aload_n 0, 1) := by decide +kernel
theorem dX1_excess_5 : decode cX1_excess 5 = .ok (.getfield 7, 3) := by decide +kernel
theorem dX1_excess_8 : decode cX1_excess 8 = .ok (.ishl, 1) := by decide +kernel
theorem dX1_excess_9 : decode cX1_excess 9 = .ok (.iconst 1, 1) := by decide +kernel
theorem dX1_excess_10 : decode cX1_excess 10 = .ok (.isub, 1) := by decide +kernel
theorem dX1_excess_11 : decode cX1_excess 11 = .ok (.invokestatic 48, 3) := by decide +kernel
theorem dX1_excess_14 : decode cX1_excess 14 = .ok (.ifCond .eq 7, 3) := by decide +kernel
theorem dX1_excess_17 : decode cX1_excess 17 = .ok (.iconst 0, 1) := by decide +kernel
theorem dX1_excess_18 : decode cX1_excess 18 = .ok (.goto 4, 3) := by decide +kernel
theorem dX1_excess_21 : decode cX1_excess 21 = .ok (.iconst 1, 1) := by decide +kernel
theorem dX1_excess_22 : decode cX1_excess 22 = .ok (.putfield 45, 3) := by decide +kernel
theorem dX1_excess_25 : decode cX1_excess 25 = .ok (.aload_n 0, 1) := by decide +kernel
theorem dX1_excess_26 : decode cX1_excess 26 = .ok (.getfield 45, 3) := by decide +kernel
theorem dX1_excess_29 : decode cX1_excess 29 = .ok (.ifCond .le 7, 3) := by decide +kernel
theorem dX1_excess_32 : decode cX1_excess 32 = .ok (.iconst 0, 1) := by decide +kernel
theorem dX1_excess_33 : decode cX1_excess 33 = .ok (.goto 8, 3) := by decide +kernel
theorem dX1_excess_36 : decode cX1_excess 36 = .ok (.aload_n 0, 1) := by decide +kernel
theorem dX1_excess_37 : decode cX1_excess 37 = .ok (.iload_n 1, 1) := by decide +kernel
theorem dX1_excess_38 : decode cX1_excess 38 = .ok (.invokevirtual 73, 3) := by decide +kernel
theorem dX1_excess_41 : decode cX1_excess 41 = .ok (.ireturn, 1) := by decide +kernel
theorem dX1_rowSum_0 : decode cX1_rowSum 0 = .ok (.dconst 0, 1) := by decide +kernel
theorem dX1_rowSum_1 : decode cX1_rowSum 1 = .ok (.dstore_n 2, 1) := by decide +kernel
theorem dX1_rowSum_2 : decode cX1_rowSum 2 = .ok (.iconst 0, 1) := by decide +kernel
theorem dX1_rowSum_3 : decode cX1_rowSum 3 = .ok (.istore 4, 2) := by decide +kernel
theorem dX1_rowSum_5 : decode cX1_rowSum 5 = .ok (.iload 4, 2) := by decide +kernel
theorem dX1_rowSum_7 : decode cX1_rowSum 7 = .ok (.aload_n 0, 1) := by decide +kernel
theorem dX1_rowSum_8 : decode cX1_rowSum 8 = .ok (.getfield 7, 3) := by decide +kernel
theorem dX1_rowSum_11 : decode cX1_rowSum 11 = .ok (.if_icmp .ge 24, 3) := by decide +kernel
theorem dX1_rowSum_14 : decode cX1_rowSum 14 = .ok (.dload_n 2, 1) := by decide +kernel
theorem dX1_rowSum_15 : decode cX1_rowSum 15 = .ok (.aload_n 0, 1) := by decide +kernel
theorem dX1_rowSum_16 : decode cX1_rowSum 16 = .ok (.getfield 23, 3) := by decide +kernel
theorem dX1_rowSum_19 : decode cX1_rowSum 19 = .ok (.bipush 6, 2) := by decide +kernel
theorem dX1_rowSum_21 : decode cX1_rowSum 21 = .ok (.iload_n 1, 1) := by decide +kernel
theorem dX1_rowSum_22 : decode cX1_rowSum 22 = .ok (.imul, 1) := by decide +kernel
theorem dX1_rowSum_23 : decode cX1_rowSum 23 = .ok (.iload 4, 2) := by decide +kernel
theorem dX1_rowSum_25 : decode cX1_rowSum 25 = .ok (.iadd, 1) := by decide +kernel
theorem dX1_rowSum_26 : decode cX1_rowSum 26 = .ok (.daload, 1) := by decide +kernel
theorem dX1_rowSum_27 : decode cX1_rowSum 27 = .ok (.dadd, 1) := by decide +kernel
theorem dX1_rowSum_28 : decode cX1_rowSum 28 = .ok (.dstore_n 2, 1) := by decide +kernel
theorem dX1_rowSum_29 : decode cX1_rowSum 29 = .ok (.iinc 4 1, 3) := by decide +kernel
theorem dX1_rowSum_32 : decode cX1_rowSum 32 = .ok (.goto (-27), 3) := by decide +kernel
theorem dX1_rowSum_35 : decode cX1_rowSum 35 = .ok (.dload_n 2, 1) := by decide +kernel
theorem dX1_rowSum_36 : decode cX1_rowSum 36 = .ok (.dreturn, 1) := by decide +kernel
theorem dX1_columnSum_0 : decode cX1_columnSum 0 = .ok (.dconst 0, 1) := by decide +kernel
theorem dX1_columnSum_1 : decode cX1_columnSum 1 = .ok (.dstore_n 2, 1) := by decide +kernel
theorem dX1_columnSum_2 : decode cX1_columnSum 2 = .ok (.iconst 0, 1) := by decide +kernel
theorem dX1_columnSum_3 : decode cX1_columnSum 3 = .ok (.istore 4, 2) := by decide +kernel
theorem dX1_columnSum_5 : decode cX1_columnSum 5 = .ok (.iload 4, 2) := by decide +kernel
theorem dX1_columnSum_7 : decode cX1_columnSum 7 = .ok (.aload_n 0, 1) := by decide +kernel
theorem dX1_columnSum_8 : decode cX1_columnSum 8 = .ok (.getfield 7, 3) := by decide +kernel
theorem dX1_columnSum_11 : decode cX1_columnSum 11 = .ok (.if_icmp .ge 24, 3) := by decide +kernel
theorem dX1_columnSum_14 : decode cX1_columnSum 14 = .ok (.dload_n 2, 1) := by decide +kernel
theorem dX1_columnSum_15 : decode cX1_columnSum 15 = .ok (.aload_n 0, 1) := by decide +kernel
theorem dX1_columnSum_16 : decode cX1_columnSum 16 = .ok (.getfield 23, 3) := by decide +kernel
theorem dX1_columnSum_19 : decode cX1_columnSum 19 = .ok (.bipush 6, 2) := by decide +kernel
theorem dX1_columnSum_21 : decode cX1_columnSum 21 = .ok (.iload 4, 2) := by decide +kernel
theorem dX1_columnSum_23 : decode cX1_columnSum 23 = .ok (.imul, 1) := by decide +kernel
theorem dX1_columnSum_24 : decode cX1_columnSum 24 = .ok (.iload_n 1, 1) := by decide +kernel
theorem dX1_columnSum_25 : decode cX1_columnSum 25 = .ok (.iadd, 1) := by decide +kernel
theorem dX1_columnSum_26 : decode cX1_columnSum 26 = .ok (.daload, 1) := by decide +kernel
theorem dX1_columnSum_27 : decode cX1_columnSum 27 = .ok (.dadd, 1) := by decide +kernel
theorem dX1_columnSum_28 : decode cX1_columnSum 28 = .ok (.dstore_n 2, 1) := by decide +kernel
theorem dX1_columnSum_29 : decode cX1_columnSum 29 = .ok (.iinc 4 1, 3) := by decide +kernel
theorem dX1_columnSum_32 : decode cX1_columnSum 32 = .ok (.goto (-27), 3) := by decide +kernel
theorem dX1_columnSum_35 : decode cX1_columnSum 35 = .ok (.dload_n 2, 1) := by decide +kernel
theorem dX1_columnSum_36 : decode cX1_columnSum 36 = .ok (.dreturn, 1) := by decide +kernel
set_option maxRecDepth 20000 in
theorem ggX1_rowStep_X1_rowSum : GoodIn wsX1_rowStep wsX1_rowSum := goodIn_ca (goodIn_r _ [8, 2, 3, 9, 10, 11, 12, 13, 14, 15, 16, 17, 18, 19, 20, 21] (by decide +kernel) (by decide +kernel)) (goodIn_sub (fun _ h => List.mem_cons_of_mem _ (List.mem_append_right _ h)) (by decide +kernel))
set_option maxRecDepth 20000 in
theorem gX1_rowStep_X1_rowSum : GoodIn wsX1_rowStep (wsV RX1 84 RX1 yX1_rowSum wsX1_rowSum) := goodIn_app (goodIn_of _ (by decide +kernel)) ggX1_rowStep_X1_rowSum
theorem dX1_rowStep_0 : decode cX1_rowStep 0 = .ok (.aload_n 0, 1) := by decide +kernel
theorem dX1_rowStep_1 : decode cX1_rowStep 1 = .ok (.iload_n 1, 1) := by decide +kernel
theorem dX1_rowStep_2 : decode cX1_rowStep 2 = .ok (.invokevirtual 84, 3) := by decide +kernel
theorem dX1_rowStep_5 : decode cX1_rowStep 5 = .ok (.dstore_n 2, 1) := by decide +kernel
theorem dX1_rowStep_6 : decode cX1_rowStep 6 = .ok (.dload_n 2, 1) := by decide +kernel
theorem dX1_rowStep_7 : decode cX1_rowStep 7 = .ok (.dconst 0, 1) := by decide +kernel
theorem dX1_rowStep_8 : decode cX1_rowStep 8 = .ok (.dcmp .l, 1) := by decide +kernel
theorem dX1_rowStep_9 : decode cX1_rowStep 9 = .ok (.ifCond .le 49, 3) := by decide +kernel
theorem dX1_rowStep_12 : decode cX1_rowStep 12 = .ok (.aload_n 0, 1) := by decide +kernel
theorem dX1_rowStep_13 : decode cX1_rowStep 13 = .ok (.getfield 13, 3) := by decide +kernel
theorem dX1_rowStep_16 : decode cX1_rowStep 16 = .ok (.iload_n 1, 1) := by decide +kernel
theorem dX1_rowStep_17 : decode cX1_rowStep 17 = .ok (.iaload, 1) := by decide +kernel
theorem dX1_rowStep_18 : decode cX1_rowStep 18 = .ok (.i2d, 1) := by decide +kernel
theorem dX1_rowStep_19 : decode cX1_rowStep 19 = .ok (.dload_n 2, 1) := by decide +kernel
theorem dX1_rowStep_20 : decode cX1_rowStep 20 = .ok (.ddiv, 1) := by decide +kernel
theorem dX1_rowStep_21 : decode cX1_rowStep 21 = .ok (.dstore 4, 2) := by decide +kernel
theorem dX1_rowStep_23 : decode cX1_rowStep 23 = .ok (.iconst 0, 1) := by decide +kernel
theorem dX1_rowStep_24 : decode cX1_rowStep 24 = .ok (.istore 6, 2) := by decide +kernel
theorem dX1_rowStep_26 : decode cX1_rowStep 26 = .ok (.iload 6, 2) := by decide +kernel
theorem dX1_rowStep_28 : decode cX1_rowStep 28 = .ok (.aload_n 0, 1) := by decide +kernel
theorem dX1_rowStep_29 : decode cX1_rowStep 29 = .ok (.getfield 7, 3) := by decide +kernel
theorem dX1_rowStep_32 : decode cX1_rowStep 32 = .ok (.if_icmp .ge 26, 3) := by decide +kernel
theorem dX1_rowStep_35 : decode cX1_rowStep 35 = .ok (.aload_n 0, 1) := by decide +kernel
theorem dX1_rowStep_36 : decode cX1_rowStep 36 = .ok (.getfield 23, 3) := by decide +kernel
theorem dX1_rowStep_39 : decode cX1_rowStep 39 = .ok (.bipush 6, 2) := by decide +kernel
theorem dX1_rowStep_41 : decode cX1_rowStep 41 = .ok (.iload_n 1, 1) := by decide +kernel
theorem dX1_rowStep_42 : decode cX1_rowStep 42 = .ok (.imul, 1) := by decide +kernel
theorem dX1_rowStep_43 : decode cX1_rowStep 43 = .ok (.iload 6, 2) := by decide +kernel
theorem dX1_rowStep_45 : decode cX1_rowStep 45 = .ok (.iadd, 1) := by decide +kernel
theorem dX1_rowStep_46 : decode cX1_rowStep 46 = .ok (.dup2, 1) := by decide +kernel
theorem dX1_rowStep_47 : decode cX1_rowStep 47 = .ok (.daload, 1) := by decide +kernel
theorem dX1_rowStep_48 : decode cX1_rowStep 48 = .ok (.dload 4, 2) := by decide +kernel
theorem dX1_rowStep_50 : decode cX1_rowStep 50 = .ok (.dmul, 1) := by decide +kernel
theorem dX1_rowStep_51 : decode cX1_rowStep 51 = .ok (.dastore, 1) := by decide +kernel
theorem dX1_rowStep_52 : decode cX1_rowStep 52 = .ok (.iinc 6 1, 3) := by decide +kernel
theorem dX1_rowStep_55 : decode cX1_rowStep 55 = .ok (.goto (-29), 3) := by decide +kernel
theorem dX1_rowStep_58 : decode cX1_rowStep 58 = .ok (.return_, 1) := by decide +kernel
set_option maxRecDepth 20000 in
theorem ggX1_columnStep_X1_columnSum : GoodIn wsX1_columnStep wsX1_columnSum := goodIn_ca (goodIn_r _ [8, 2, 3, 9, 10, 11, 12, 13, 14, 15, 16, 17, 18, 19, 20, 21] (by decide +kernel) (by decide +kernel)) (goodIn_sub (fun _ h => List.mem_cons_of_mem _ (List.mem_append_right _ h)) (by decide +kernel))
set_option maxRecDepth 20000 in
theorem gX1_columnStep_X1_columnSum : GoodIn wsX1_columnStep (wsV RX1 88 RX1 yX1_columnSum wsX1_columnSum) := goodIn_app (goodIn_of _ (by decide +kernel)) ggX1_columnStep_X1_columnSum
theorem dX1_columnStep_0 : decode cX1_columnStep 0 = .ok (.aload_n 0, 1) := by decide +kernel
theorem dX1_columnStep_1 : decode cX1_columnStep 1 = .ok (.iload_n 1, 1) := by decide +kernel
theorem dX1_columnStep_2 : decode cX1_columnStep 2 = .ok (.invokevirtual 88, 3) := by decide +kernel
theorem dX1_columnStep_5 : decode cX1_columnStep 5 = .ok (.dstore_n 2, 1) := by decide +kernel
theorem dX1_columnStep_6 : decode cX1_columnStep 6 = .ok (.dload_n 2, 1) := by decide +kernel
theorem dX1_columnStep_7 : decode cX1_columnStep 7 = .ok (.dconst 0, 1) := by decide +kernel
theorem dX1_columnStep_8 : decode cX1_columnStep 8 = .ok (.dcmp .l, 1) := by decide +kernel
theorem dX1_columnStep_9 : decode cX1_columnStep 9 = .ok (.ifCond .le 49, 3) := by decide +kernel
theorem dX1_columnStep_12 : decode cX1_columnStep 12 = .ok (.aload_n 0, 1) := by decide +kernel
theorem dX1_columnStep_13 : decode cX1_columnStep 13 = .ok (.getfield 17, 3) := by decide +kernel
theorem dX1_columnStep_16 : decode cX1_columnStep 16 = .ok (.iload_n 1, 1) := by decide +kernel
theorem dX1_columnStep_17 : decode cX1_columnStep 17 = .ok (.iaload, 1) := by decide +kernel
theorem dX1_columnStep_18 : decode cX1_columnStep 18 = .ok (.i2d, 1) := by decide +kernel
theorem dX1_columnStep_19 : decode cX1_columnStep 19 = .ok (.dload_n 2, 1) := by decide +kernel
theorem dX1_columnStep_20 : decode cX1_columnStep 20 = .ok (.ddiv, 1) := by decide +kernel
theorem dX1_columnStep_21 : decode cX1_columnStep 21 = .ok (.dstore 4, 2) := by decide +kernel
theorem dX1_columnStep_23 : decode cX1_columnStep 23 = .ok (.iconst 0, 1) := by decide +kernel
theorem dX1_columnStep_24 : decode cX1_columnStep 24 = .ok (.istore 6, 2) := by decide +kernel
theorem dX1_columnStep_26 : decode cX1_columnStep 26 = .ok (.iload 6, 2) := by decide +kernel
theorem dX1_columnStep_28 : decode cX1_columnStep 28 = .ok (.aload_n 0, 1) := by decide +kernel
theorem dX1_columnStep_29 : decode cX1_columnStep 29 = .ok (.getfield 7, 3) := by decide +kernel
theorem dX1_columnStep_32 : decode cX1_columnStep 32 = .ok (.if_icmp .ge 26, 3) := by decide +kernel
theorem dX1_columnStep_35 : decode cX1_columnStep 35 = .ok (.aload_n 0, 1) := by decide +kernel
theorem dX1_columnStep_36 : decode cX1_columnStep 36 = .ok (.getfield 23, 3) := by decide +kernel
theorem dX1_columnStep_39 : decode cX1_columnStep 39 = .ok (.bipush 6, 2) := by decide +kernel
theorem dX1_columnStep_41 : decode cX1_columnStep 41 = .ok (.iload 6, 2) := by decide +kernel
theorem dX1_columnStep_43 : decode cX1_columnStep 43 = .ok (.imul, 1) := by decide +kernel
theorem dX1_columnStep_44 : decode cX1_columnStep 44 = .ok (.iload_n 1, 1) := by decide +kernel
theorem dX1_columnStep_45 : decode cX1_columnStep 45 = .ok (.iadd, 1) := by decide +kernel
theorem dX1_columnStep_46 : decode cX1_columnStep 46 = .ok (.dup2, 1) := by decide +kernel
theorem dX1_columnStep_47 : decode cX1_columnStep 47 = .ok (.daload, 1) := by decide +kernel
theorem dX1_columnStep_48 : decode cX1_columnStep 48 = .ok (.dload 4, 2) := by decide +kernel
theorem dX1_columnStep_50 : decode cX1_columnStep 50 = .ok (.dmul, 1) := by decide +kernel
theorem dX1_columnStep_51 : decode cX1_columnStep 51 = .ok (.dastore, 1) := by decide +kernel
theorem dX1_columnStep_52 : decode cX1_columnStep 52 = .ok (.iinc 6 1, 3) := by decide +kernel
theorem dX1_columnStep_55 : decode cX1_columnStep 55 = .ok (.goto (-29), 3) := by decide +kernel
theorem dX1_columnStep_58 : decode cX1_columnStep 58 = .ok (.return_, 1) := by decide +kernel
set_option maxRecDepth 20000 in
theorem ggX1_oneRound_X1_rowStep : GoodIn wsX1_oneRound wsX1_rowStep := goodIn_ca (goodIn_r _ [7, 8, 1, 9, 10, 11, 12, 6, 13, 23, 24, 25, 26, 27, 28, 29, 30, 31, 32, 33, 34, 35] (by decide +kernel) (by decide +kernel)) (goodIn_sub (fun _ h => List.mem_cons_of_mem _ (List.mem_append_right _ h)) (by decide +kernel))
set_option maxRecDepth 20000 in
theorem gX1_oneRound_X1_rowStep : GoodIn wsX1_oneRound (wsV RX1 91 RX1 yX1_rowStep wsX1_rowStep) := goodIn_app (goodIn_of _ (by decide +kernel)) ggX1_oneRound_X1_rowStep
set_option maxRecDepth 20000 in
theorem ggX1_oneRound_X1_columnStep : GoodIn wsX1_oneRound wsX1_columnStep := goodIn_ca (goodIn_r _ [17, 18, 1, 9, 19, 20, 21, 6, 22, 23, 24, 25, 26, 27, 28, 29, 30, 31, 32, 33, 34, 35] (by decide +kernel) (by decide +kernel)) (goodIn_sub (fun _ h => List.mem_cons_of_mem _ (List.mem_append_right _ h)) (by decide +kernel))
set_option maxRecDepth 20000 in
theorem gX1_oneRound_X1_columnStep : GoodIn wsX1_oneRound (wsV RX1 95 RX1 yX1_columnStep wsX1_columnStep) := goodIn_app (goodIn_of _ (by decide +kernel)) ggX1_oneRound_X1_columnStep
theorem dX1_oneRound_0 : decode cX1_oneRound 0 = .ok (.iconst 0, 1) := by decide +kernel
theorem dX1_oneRound_1 : decode cX1_oneRound 1 = .ok (.istore_n 1, 1) := by decide +kernel
theorem dX1_oneRound_2 : decode cX1_oneRound 2 = .ok (.iload_n 1, 1) := by decide +kernel
theorem dX1_oneRound_3 : decode cX1_oneRound 3 = .ok (.aload_n 0, 1) := by decide +kernel
theorem dX1_oneRound_4 : decode cX1_oneRound 4 = .ok (.getfield 7, 3) := by decide +kernel
theorem dX1_oneRound_7 : decode cX1_oneRound 7 = .ok (.if_icmp .ge 14, 3) := by decide +kernel
theorem dX1_oneRound_10 : decode cX1_oneRound 10 = .ok (.aload_n 0, 1) := by decide +kernel
theorem dX1_oneRound_11 : decode cX1_oneRound 11 = .ok (.iload_n 1, 1) := by decide +kernel
theorem dX1_oneRound_12 : decode cX1_oneRound 12 = .ok (.invokevirtual 91, 3) := by decide +kernel
theorem dX1_oneRound_15 : decode cX1_oneRound 15 = .ok (.iinc 1 1, 3) := by decide +kernel
theorem dX1_oneRound_18 : decode cX1_oneRound 18 = .ok (.goto (-16), 3) := by decide +kernel
theorem dX1_oneRound_21 : decode cX1_oneRound 21 = .ok (.iconst 0, 1) := by decide +kernel
theorem dX1_oneRound_22 : decode cX1_oneRound 22 = .ok (.istore_n 1, 1) := by decide +kernel
theorem dX1_oneRound_23 : decode cX1_oneRound 23 = .ok (.iload_n 1, 1) := by decide +kernel
theorem dX1_oneRound_24 : decode cX1_oneRound 24 = .ok (.aload_n 0, 1) := by decide +kernel
theorem dX1_oneRound_25 : decode cX1_oneRound 25 = .ok (.getfield 7, 3) := by decide +kernel
theorem dX1_oneRound_28 : decode cX1_oneRound 28 = .ok (.if_icmp .ge 14, 3) := by decide +kernel
theorem dX1_oneRound_31 : decode cX1_oneRound 31 = .ok (.aload_n 0, 1) := by decide +kernel
theorem dX1_oneRound_32 : decode cX1_oneRound 32 = .ok (.iload_n 1, 1) := by decide +kernel
theorem dX1_oneRound_33 : decode cX1_oneRound 33 = .ok (.invokevirtual 95, 3) := by decide +kernel
theorem dX1_oneRound_36 : decode cX1_oneRound 36 = .ok (.iinc 1 1, 3) := by decide +kernel
theorem dX1_oneRound_39 : decode cX1_oneRound 39 = .ok (.goto (-16), 3) := by decide +kernel
theorem dX1_oneRound_42 : decode cX1_oneRound 42 = .ok (.aload_n 0, 1) := by decide +kernel
theorem dX1_oneRound_43 : decode cX1_oneRound 43 = .ok (.dup, 1) := by decide +kernel
theorem dX1_oneRound_44 : decode cX1_oneRound 44 = .ok (.getfield 52, 3) := by decide +kernel
theorem dX1_oneRound_47 : decode cX1_oneRound 47 = .ok (.iconst 1, 1) := by decide +kernel
theorem dX1_oneRound_48 : decode cX1_oneRound 48 = .ok (.iadd, 1) := by decide +kernel
theorem dX1_oneRound_49 : decode cX1_oneRound 49 = .ok (.putfield 52, 3) := by decide +kernel
theorem dX1_oneRound_52 : decode cX1_oneRound 52 = .ok (.return_, 1) := by decide +kernel
theorem dX1_far_0 : decode cX1_far 0 = .ok (.dload_n 0, 1) := by decide +kernel
theorem dX1_far_1 : decode cX1_far 1 = .ok (.dload_n 2, 1) := by decide +kernel
theorem dX1_far_2 : decode cX1_far 2 = .ok (.dcmp .l, 1) := by decide +kernel
theorem dX1_far_3 : decode cX1_far 3 = .ok (.ifCond .le 9, 3) := by decide +kernel
theorem dX1_far_6 : decode cX1_far 6 = .ok (.dload_n 0, 1) := by decide +kernel
theorem dX1_far_7 : decode cX1_far 7 = .ok (.dload_n 2, 1) := by decide +kernel
theorem dX1_far_8 : decode cX1_far 8 = .ok (.dsub, 1) := by decide +kernel
theorem dX1_far_9 : decode cX1_far 9 = .ok (.goto 6, 3) := by decide +kernel
theorem dX1_far_12 : decode cX1_far 12 = .ok (.dload_n 2, 1) := by decide +kernel
theorem dX1_far_13 : decode cX1_far 13 = .ok (.dload_n 0, 1) := by decide +kernel
theorem dX1_far_14 : decode cX1_far 14 = .ok (.dsub, 1) := by decide +kernel
theorem dX1_far_15 : decode cX1_far 15 = .ok (.dreturn, 1) := by decide +kernel
set_option maxRecDepth 20000 in
theorem ggX1_misfitNow_X1_rowSum : GoodIn wsX1_misfitNow wsX1_rowSum := goodIn_ca (goodIn_r _ [8, 1, 9, 17, 18, 19, 20, 21, 22, 23, 24, 25, 26, 27, 28, 29] (by decide +kernel) (by decide +kernel)) (goodIn_sub (fun _ h => List.mem_cons_of_mem _ (List.mem_append_right _ h)) (by decide +kernel))
set_option maxRecDepth 20000 in
theorem gX1_misfitNow_X1_rowSum : GoodIn wsX1_misfitNow (wsV RX1 84 RX1 yX1_rowSum wsX1_rowSum) := goodIn_app (goodIn_of _ (by decide +kernel)) ggX1_misfitNow_X1_rowSum
set_option maxRecDepth 20000 in
theorem ggX1_misfitNow_X1_far : GoodIn wsX1_misfitNow wsX1_far := goodIn_r _ [12] (by decide +kernel) (by decide +kernel)
set_option maxRecDepth 20000 in
theorem gX1_misfitNow_X1_far : GoodIn wsX1_misfitNow (va_wsS RX1 98 yX1_far wsX1_far) := goodIn_app (goodIn_of _ (by decide +kernel)) ggX1_misfitNow_X1_far
set_option maxRecDepth 20000 in
theorem ggX1_misfitNow_X1_columnSum : GoodIn wsX1_misfitNow wsX1_columnSum := goodIn_ca (goodIn_r _ [16, 1, 9, 17, 18, 19, 20, 21, 22, 23, 24, 25, 26, 27, 28, 29] (by decide +kernel) (by decide +kernel)) (goodIn_sub (fun _ h => List.mem_cons_of_mem _ (List.mem_append_right _ h)) (by decide +kernel))
set_option maxRecDepth 20000 in
theorem gX1_misfitNow_X1_columnSum : GoodIn wsX1_misfitNow (wsV RX1 88 RX1 yX1_columnSum wsX1_columnSum) := goodIn_app (goodIn_of _ (by decide +kernel)) ggX1_misfitNow_X1_columnSum
theorem dX1_misfitNow_0 : decode cX1_misfitNow 0 = .ok (.dconst 0, 1) := by decide +kernel
theorem dX1_misfitNow_1 : decode cX1_misfitNow 1 = .ok (.dstore_n 1, 1) := by decide +kernel
theorem dX1_misfitNow_2 : decode cX1_misfitNow 2 = .ok (.iconst 0, 1) := by decide +kernel
theorem dX1_misfitNow_3 : decode cX1_misfitNow 3 = .ok (.istore_n 3, 1) := by decide +kernel
theorem dX1_misfitNow_4 : decode cX1_misfitNow 4 = .ok (.iload_n 3, 1) := by decide +kernel
theorem dX1_misfitNow_5 : decode cX1_misfitNow 5 = .ok (.aload_n 0, 1) := by decide +kernel
theorem dX1_misfitNow_6 : decode cX1_misfitNow 6 = .ok (.getfield 7, 3) := by decide +kernel
theorem dX1_misfitNow_9 : decode cX1_misfitNow 9 = .ok (.if_icmp .ge 71, 3) := by decide +kernel
theorem dX1_misfitNow_12 : decode cX1_misfitNow 12 = .ok (.aload_n 0, 1) := by decide +kernel
theorem dX1_misfitNow_13 : decode cX1_misfitNow 13 = .ok (.iload_n 3, 1) := by decide +kernel
theorem dX1_misfitNow_14 : decode cX1_misfitNow 14 = .ok (.invokevirtual 84, 3) := by decide +kernel
theorem dX1_misfitNow_17 : decode cX1_misfitNow 17 = .ok (.aload_n 0, 1) := by decide +kernel
theorem dX1_misfitNow_18 : decode cX1_misfitNow 18 = .ok (.getfield 13, 3) := by decide +kernel
theorem dX1_misfitNow_21 : decode cX1_misfitNow 21 = .ok (.iload_n 3, 1) := by decide +kernel
theorem dX1_misfitNow_22 : decode cX1_misfitNow 22 = .ok (.iaload, 1) := by decide +kernel
theorem dX1_misfitNow_23 : decode cX1_misfitNow 23 = .ok (.i2d, 1) := by decide +kernel
theorem dX1_misfitNow_24 : decode cX1_misfitNow 24 = .ok (.invokestatic 98, 3) := by decide +kernel
theorem dX1_misfitNow_27 : decode cX1_misfitNow 27 = .ok (.dstore 4, 2) := by decide +kernel
theorem dX1_misfitNow_29 : decode cX1_misfitNow 29 = .ok (.aload_n 0, 1) := by decide +kernel
theorem dX1_misfitNow_30 : decode cX1_misfitNow 30 = .ok (.iload_n 3, 1) := by decide +kernel
theorem dX1_misfitNow_31 : decode cX1_misfitNow 31 = .ok (.invokevirtual 88, 3) := by decide +kernel
theorem dX1_misfitNow_34 : decode cX1_misfitNow 34 = .ok (.aload_n 0, 1) := by decide +kernel
theorem dX1_misfitNow_35 : decode cX1_misfitNow 35 = .ok (.getfield 17, 3) := by decide +kernel
theorem dX1_misfitNow_38 : decode cX1_misfitNow 38 = .ok (.iload_n 3, 1) := by decide +kernel
theorem dX1_misfitNow_39 : decode cX1_misfitNow 39 = .ok (.iaload, 1) := by decide +kernel
theorem dX1_misfitNow_40 : decode cX1_misfitNow 40 = .ok (.i2d, 1) := by decide +kernel
theorem dX1_misfitNow_41 : decode cX1_misfitNow 41 = .ok (.invokestatic 98, 3) := by decide +kernel
theorem dX1_misfitNow_44 : decode cX1_misfitNow 44 = .ok (.dstore 6, 2) := by decide +kernel
theorem dX1_misfitNow_46 : decode cX1_misfitNow 46 = .ok (.dload 4, 2) := by decide +kernel
theorem dX1_misfitNow_48 : decode cX1_misfitNow 48 = .ok (.dload_n 1, 1) := by decide +kernel
theorem dX1_misfitNow_49 : decode cX1_misfitNow 49 = .ok (.dcmp .l, 1) := by decide +kernel
theorem dX1_misfitNow_50 : decode cX1_misfitNow 50 = .ok (.ifCond .le 8, 3) := by decide +kernel
theorem dX1_misfitNow_53 : decode cX1_misfitNow 53 = .ok (.dload 4, 2) := by decide +kernel
theorem dX1_misfitNow_55 : decode cX1_misfitNow 55 = .ok (.goto 4, 3) := by decide +kernel
theorem dX1_misfitNow_58 : decode cX1_misfitNow 58 = .ok (.dload_n 1, 1) := by decide +kernel
theorem dX1_misfitNow_59 : decode cX1_misfitNow 59 = .ok (.dstore_n 1, 1) := by decide +kernel
theorem dX1_misfitNow_60 : decode cX1_misfitNow 60 = .ok (.dload 6, 2) := by decide +kernel
theorem dX1_misfitNow_62 : decode cX1_misfitNow 62 = .ok (.dload_n 1, 1) := by decide +kernel
theorem dX1_misfitNow_63 : decode cX1_misfitNow 63 = .ok (.dcmp .l, 1) := by decide +kernel
theorem dX1_misfitNow_64 : decode cX1_misfitNow 64 = .ok (.ifCond .le 8, 3) := by decide +kernel
theorem dX1_misfitNow_67 : decode cX1_misfitNow 67 = .ok (.dload 6, 2) := by decide +kernel
theorem dX1_misfitNow_69 : decode cX1_misfitNow 69 = .ok (.goto 4, 3) := by decide +kernel
theorem dX1_misfitNow_72 : decode cX1_misfitNow 72 = .ok (.dload_n 1, 1) := by decide +kernel
theorem dX1_misfitNow_73 : decode cX1_misfitNow 73 = .ok (.dstore_n 1, 1) := by decide +kernel
theorem dX1_misfitNow_74 : decode cX1_misfitNow 74 = .ok (.iinc 3 1, 3) := by decide +kernel
theorem dX1_misfitNow_77 : decode cX1_misfitNow 77 = .ok (.goto (-73), 3) := by decide +kernel
theorem dX1_misfitNow_80 : decode cX1_misfitNow 80 = .ok (.dload_n 1, 1) := by decide +kernel
theorem dX1_misfitNow_81 : decode cX1_misfitNow 81 = .ok (.dreturn, 1) := by decide +kernel
set_option maxRecDepth 20000 in
theorem ggX1_iterate_X1_within : GoodIn wsX1_iterate wsX1_within := goodIn_r _ [6] (by decide +kernel) (by decide +kernel)
set_option maxRecDepth 20000 in
theorem gX1_iterate_X1_within : GoodIn wsX1_iterate (va_wsS RX1 48 yX1_within wsX1_within) := goodIn_app (goodIn_of _ (by decide +kernel)) ggX1_iterate_X1_within
set_option maxRecDepth 20000 in
theorem ggX1_iterate_X1_oneRound : GoodIn wsX1_iterate wsX1_oneRound := goodIn_ca (goodIn_r _ [10, 11, 2, 12, 13, 14, 5, 15, 16, 17, 18, 19, 20, 21, 22, 23, 24, 25, 26, 27, 28, 29, 30, 31, 32, 33, 34, 35, 36, 37, 38, 39, 40, 41, 42, 43] (by decide +kernel) (by decide +kernel)) (goodIn_sub (fun _ h => List.mem_cons_of_mem _ (List.mem_append_right _ h)) (by decide +kernel))
set_option maxRecDepth 20000 in
theorem gX1_iterate_X1_oneRound : GoodIn wsX1_iterate (wsV RX1 102 RX1 yX1_oneRound wsX1_oneRound) := goodIn_app (goodIn_of _ (by decide +kernel)) ggX1_iterate_X1_oneRound
theorem dX1_iterate_0 : decode cX1_iterate 0 = .ok (.aload_n 0, 1) := by decide +kernel
theorem dX1_iterate_1 : decode cX1_iterate 1 = .ok (.iload_n 1, 1) := by decide +kernel
theorem dX1_iterate_2 : decode cX1_iterate 2 = .ok (.iconst 1, 1) := by decide +kernel
theorem dX1_iterate_3 : decode cX1_iterate 3 = .ok (.bipush 50, 2) := by decide +kernel
theorem dX1_iterate_5 : decode cX1_iterate 5 = .ok (.invokestatic 48, 3) := by decide +kernel
theorem dX1_iterate_8 : decode cX1_iterate 8 = .ok (.ifCond .eq 7, 3) := by decide +kernel
theorem dX1_iterate_11 : decode cX1_iterate 11 = .ok (.iconst 0, 1) := by decide +kernel
theorem dX1_iterate_12 : decode cX1_iterate 12 = .ok (.goto 4, 3) := by decide +kernel
theorem dX1_iterate_15 : decode cX1_iterate 15 = .ok (.iconst 1, 1) := by decide +kernel
theorem dX1_iterate_16 : decode cX1_iterate 16 = .ok (.putfield 45, 3) := by decide +kernel
theorem dX1_iterate_19 : decode cX1_iterate 19 = .ok (.iconst 0, 1) := by decide +kernel
theorem dX1_iterate_20 : decode cX1_iterate 20 = .ok (.istore_n 2, 1) := by decide +kernel
theorem dX1_iterate_21 : decode cX1_iterate 21 = .ok (.iload_n 2, 1) := by decide +kernel
theorem dX1_iterate_22 : decode cX1_iterate 22 = .ok (.iload_n 1, 1) := by decide +kernel
theorem dX1_iterate_23 : decode cX1_iterate 23 = .ok (.if_icmp .ge 20, 3) := by decide +kernel
theorem dX1_iterate_26 : decode cX1_iterate 26 = .ok (.aload_n 0, 1) := by decide +kernel
theorem dX1_iterate_27 : decode cX1_iterate 27 = .ok (.getfield 45, 3) := by decide +kernel
theorem dX1_iterate_30 : decode cX1_iterate 30 = .ok (.ifCond .ne 13, 3) := by decide +kernel
theorem dX1_iterate_33 : decode cX1_iterate 33 = .ok (.aload_n 0, 1) := by decide +kernel
theorem dX1_iterate_34 : decode cX1_iterate 34 = .ok (.invokevirtual 102, 3) := by decide +kernel
theorem dX1_iterate_37 : decode cX1_iterate 37 = .ok (.iinc 2 1, 3) := by decide +kernel
theorem dX1_iterate_40 : decode cX1_iterate 40 = .ok (.goto (-19), 3) := by decide +kernel
theorem dX1_iterate_43 : decode cX1_iterate 43 = .ok (.aload_n 0, 1) := by decide +kernel
theorem dX1_iterate_44 : decode cX1_iterate 44 = .ok (.getfield 45, 3) := by decide +kernel
theorem dX1_iterate_47 : decode cX1_iterate 47 = .ok (.ifCond .le 7, 3) := by decide +kernel
theorem dX1_iterate_50 : decode cX1_iterate 50 = .ok (.iconst 0, 1) := by decide +kernel
theorem dX1_iterate_51 : decode cX1_iterate 51 = .ok (.goto 7, 3) := by decide +kernel
theorem dX1_iterate_54 : decode cX1_iterate 54 = .ok (.aload_n 0, 1) := by decide +kernel
theorem dX1_iterate_55 : decode cX1_iterate 55 = .ok (.getfield 52, 3) := by decide +kernel
theorem dX1_iterate_58 : decode cX1_iterate 58 = .ok (.ireturn, 1) := by decide +kernel
set_option maxRecDepth 20000 in
theorem ggX1_fit_X1_within : GoodIn wsX1_fit wsX1_within := goodIn_r _ [7] (by decide +kernel) (by decide +kernel)
set_option maxRecDepth 20000 in
theorem gX1_fit_X1_within : GoodIn wsX1_fit (va_wsS RX1 48 yX1_within wsX1_within) := goodIn_app (goodIn_of _ (by decide +kernel)) ggX1_fit_X1_within
set_option maxRecDepth 20000 in
theorem ggX1_fit_X1_misfitNow : GoodIn wsX1_fit wsX1_misfitNow := goodIn_ca (goodIn_r _ [11, 12, 13, 14, 15, 16, 17, 6, 18, 19, 20, 21, 22, 23, 24, 25, 26, 40, 41, 42, 43, 44, 45, 46, 47, 48, 49, 50, 51, 52] (by decide +kernel) (by decide +kernel)) (goodIn_sub (fun _ h => List.mem_cons_of_mem _ (List.mem_append_right _ h)) (by decide +kernel))
set_option maxRecDepth 20000 in
theorem gX1_fit_X1_misfitNow : GoodIn wsX1_fit (wsV RX1 106 RX1 yX1_misfitNow wsX1_misfitNow) := goodIn_app (goodIn_of _ (by decide +kernel)) ggX1_fit_X1_misfitNow
set_option maxRecDepth 20000 in
theorem ggX1_fit_X1_oneRound : GoodIn wsX1_fit wsX1_oneRound := goodIn_ca (goodIn_r _ [30, 12, 31, 32, 33, 34, 6, 35, 13, 19, 15, 16, 17, 18, 36, 37, 38, 39, 14, 23, 24, 25, 26, 40, 41, 42, 43, 44, 45, 46, 47, 48, 49, 50, 51, 52] (by decide +kernel) (by decide +kernel)) (goodIn_sub (fun _ h => List.mem_cons_of_mem _ (List.mem_append_right _ h)) (by decide +kernel))
set_option maxRecDepth 20000 in
theorem gX1_fit_X1_oneRound : GoodIn wsX1_fit (wsV RX1 102 RX1 yX1_oneRound wsX1_oneRound) := goodIn_app (goodIn_of _ (by decide +kernel)) ggX1_fit_X1_oneRound
theorem dX1_fit_0 : decode cX1_fit 0 = .ok (.aload_n 0, 1) := by decide +kernel
theorem dX1_fit_1 : decode cX1_fit 1 = .ok (.iload_n 1, 1) := by decide +kernel
theorem dX1_fit_2 : decode cX1_fit 2 = .ok (.iconst 0, 1) := by decide +kernel
theorem dX1_fit_3 : decode cX1_fit 3 = .ok (.ldc 105, 2) := by decide +kernel
theorem dX1_fit_5 : decode cX1_fit 5 = .ok (.invokestatic 48, 3) := by decide +kernel
theorem dX1_fit_8 : decode cX1_fit 8 = .ok (.ifCond .eq 17, 3) := by decide +kernel
theorem dX1_fit_11 : decode cX1_fit 11 = .ok (.iload_n 2, 1) := by decide +kernel
theorem dX1_fit_12 : decode cX1_fit 12 = .ok (.iconst 1, 1) := by decide +kernel
theorem dX1_fit_13 : decode cX1_fit 13 = .ok (.bipush 100, 2) := by decide +kernel
theorem dX1_fit_15 : decode cX1_fit 15 = .ok (.invokestatic 48, 3) := by decide +kernel
theorem dX1_fit_18 : decode cX1_fit 18 = .ok (.ifCond .eq 7, 3) := by decide +kernel
theorem dX1_fit_21 : decode cX1_fit 21 = .ok (.iconst 0, 1) := by decide +kernel
theorem dX1_fit_22 : decode cX1_fit 22 = .ok (.goto 4, 3) := by decide +kernel
theorem dX1_fit_25 : decode cX1_fit 25 = .ok (.iconst 1, 1) := by decide +kernel
theorem dX1_fit_26 : decode cX1_fit 26 = .ok (.putfield 45, 3) := by decide +kernel
theorem dX1_fit_29 : decode cX1_fit 29 = .ok (.iconst 0, 1) := by decide +kernel
theorem dX1_fit_30 : decode cX1_fit 30 = .ok (.istore_n 3, 1) := by decide +kernel
theorem dX1_fit_31 : decode cX1_fit 31 = .ok (.aload_n 0, 1) := by decide +kernel
theorem dX1_fit_32 : decode cX1_fit 32 = .ok (.getfield 45, 3) := by decide +kernel
theorem dX1_fit_35 : decode cX1_fit 35 = .ok (.ifCond .ne 32, 3) := by decide +kernel
theorem dX1_fit_38 : decode cX1_fit 38 = .ok (.iload_n 3, 1) := by decide +kernel
theorem dX1_fit_39 : decode cX1_fit 39 = .ok (.iload_n 2, 1) := by decide +kernel
theorem dX1_fit_40 : decode cX1_fit 40 = .ok (.if_icmp .ge 27, 3) := by decide +kernel
theorem dX1_fit_43 : decode cX1_fit 43 = .ok (.aload_n 0, 1) := by decide +kernel
theorem dX1_fit_44 : decode cX1_fit 44 = .ok (.invokevirtual 106, 3) := by decide +kernel
theorem dX1_fit_47 : decode cX1_fit 47 = .ok (.iload_n 1, 1) := by decide +kernel
theorem dX1_fit_48 : decode cX1_fit 48 = .ok (.i2d, 1) := by decide +kernel
theorem dX1_fit_49 : decode cX1_fit 49 = .ok (.ldc2_w 110, 3) := by decide +kernel
theorem dX1_fit_52 : decode cX1_fit 52 = .ok (.ddiv, 1) := by decide +kernel
theorem dX1_fit_53 : decode cX1_fit 53 = .ok (.dcmp .l, 1) := by decide +kernel
theorem dX1_fit_54 : decode cX1_fit 54 = .ok (.ifCond .le 13, 3) := by decide +kernel
theorem dX1_fit_57 : decode cX1_fit 57 = .ok (.aload_n 0, 1) := by decide +kernel
theorem dX1_fit_58 : decode cX1_fit 58 = .ok (.invokevirtual 102, 3) := by decide +kernel
theorem dX1_fit_61 : decode cX1_fit 61 = .ok (.iinc 3 1, 3) := by decide +kernel
theorem dX1_fit_64 : decode cX1_fit 64 = .ok (.goto (-33), 3) := by decide +kernel
theorem dX1_fit_67 : decode cX1_fit 67 = .ok (.iload_n 3, 1) := by decide +kernel
theorem dX1_fit_68 : decode cX1_fit 68 = .ok (.ireturn, 1) := by decide +kernel
set_option maxRecDepth 20000 in
theorem ggX1_reset_X1_layWeights : GoodIn wsX1_reset wsX1_layWeights := goodIn_ca (goodIn_r _ [7, 8, 9, 2, 10, 11, 12, 13, 14, 15, 16, 17, 18, 19, 20, 21, 22] (by decide +kernel) (by decide +kernel)) (goodIn_sub (fun _ h => List.mem_cons_of_mem _ (List.mem_append_right _ h)) (by decide +kernel))
set_option maxRecDepth 20000 in
theorem gX1_reset_X1_layWeights : GoodIn wsX1_reset (wsV RX1 55 RX1 yX1_layWeights wsX1_layWeights) := goodIn_app (goodIn_of _ (by decide +kernel)) ggX1_reset_X1_layWeights
theorem dX1_reset_0 : decode cX1_reset 0 = .ok (.aload_n 0, 1) := by decide +kernel
theorem dX1_reset_1 : decode cX1_reset 1 = .ok (.iconst 0, 1) := by decide +kernel
theorem dX1_reset_2 : decode cX1_reset 2 = .ok (.putfield 45, 3) := by decide +kernel
theorem dX1_reset_5 : decode cX1_reset 5 = .ok (.aload_n 0, 1) := by decide +kernel
theorem dX1_reset_6 : decode cX1_reset 6 = .ok (.getfield 52, 3) := by decide +kernel
theorem dX1_reset_9 : decode cX1_reset 9 = .ok (.istore_n 1, 1) := by decide +kernel
theorem dX1_reset_10 : decode cX1_reset 10 = .ok (.aload_n 0, 1) := by decide +kernel
theorem dX1_reset_11 : decode cX1_reset 11 = .ok (.invokevirtual 55, 3) := by decide +kernel
theorem dX1_reset_14 : decode cX1_reset 14 = .ok (.iload_n 1, 1) := by decide +kernel
theorem dX1_reset_15 : decode cX1_reset 15 = .ok (.ireturn, 1) := by decide +kernel
theorem dX1_rounds_0 : decode cX1_rounds 0 = .ok (.aload_n 0, 1) := by decide +kernel
theorem dX1_rounds_1 : decode cX1_rounds 1 = .ok (.iconst 0, 1) := by decide +kernel
theorem dX1_rounds_2 : decode cX1_rounds 2 = .ok (.putfield 45, 3) := by decide +kernel
theorem dX1_rounds_5 : decode cX1_rounds 5 = .ok (.aload_n 0, 1) := by decide +kernel
theorem dX1_rounds_6 : decode cX1_rounds 6 = .ok (.getfield 52, 3) := by decide +kernel
theorem dX1_rounds_9 : decode cX1_rounds 9 = .ok (.ireturn, 1) := by decide +kernel
set_option maxRecDepth 20000 in
theorem ggX1_areArms_X1_isArm : GoodIn wsX1_areArms wsX1_isArm := goodIn_r _ [5, 6, 7, 8, 4, 9, 10, 11, 12, 13, 14, 15, 16, 17, 18, 19, 20, 21, 22] (by decide +kernel) (by decide +kernel)
set_option maxRecDepth 20000 in
theorem gX1_areArms_X1_isArm : GoodIn wsX1_areArms (wsV RX1 58 RX1 yX1_isArm wsX1_isArm) := goodIn_app (goodIn_of _ (by decide +kernel)) ggX1_areArms_X1_isArm
theorem dX1_areArms_0 : decode cX1_areArms 0 = .ok (.aload_n 0, 1) := by decide +kernel
theorem dX1_areArms_1 : decode cX1_areArms 1 = .ok (.iload_n 1, 1) := by decide +kernel
theorem dX1_areArms_2 : decode cX1_areArms 2 = .ok (.invokevirtual 58, 3) := by decide +kernel
theorem dX1_areArms_5 : decode cX1_areArms 5 = .ok (.ifCond .eq 15, 3) := by decide +kernel
theorem dX1_areArms_8 : decode cX1_areArms 8 = .ok (.aload_n 0, 1) := by decide +kernel
theorem dX1_areArms_9 : decode cX1_areArms 9 = .ok (.iload_n 2, 1) := by decide +kernel
theorem dX1_areArms_10 : decode cX1_areArms 10 = .ok (.invokevirtual 58, 3) := by decide +kernel
theorem dX1_areArms_13 : decode cX1_areArms 13 = .ok (.ifCond .eq 7, 3) := by decide +kernel
theorem dX1_areArms_16 : decode cX1_areArms 16 = .ok (.iconst 1, 1) := by decide +kernel
theorem dX1_areArms_17 : decode cX1_areArms 17 = .ok (.goto 4, 3) := by decide +kernel
theorem dX1_areArms_20 : decode cX1_areArms 20 = .ok (.iconst 0, 1) := by decide +kernel
theorem dX1_areArms_21 : decode cX1_areArms 21 = .ok (.ireturn, 1) := by decide +kernel
set_option maxRecDepth 20000 in
theorem ggX1_estimate_X1_areArms : GoodIn wsX1_estimate wsX1_areArms := goodIn_r _ [7, 8, 9, 10, 6, 11, 12, 13, 14, 15, 16, 17, 18, 19, 20, 21, 22, 23, 24, 25, 26, 27, 28] (by decide +kernel) (by decide +kernel)
set_option maxRecDepth 20000 in
theorem gX1_estimate_X1_areArms : GoodIn wsX1_estimate (wsV RX1 112 RX1 yX1_areArms wsX1_areArms) := goodIn_app (goodIn_of _ (by decide +kernel)) ggX1_estimate_X1_areArms
theorem dX1_estimate_0 : decode cX1_estimate 0 = .ok (.aload_n 0, 1) := by decide +kernel
theorem dX1_estimate_1 : decode cX1_estimate 1 = .ok (.aload_n 0, 1) := by decide +kernel
theorem dX1_estimate_2 : decode cX1_estimate 2 = .ok (.iload_n 1, 1) := by decide +kernel
theorem dX1_estimate_3 : decode cX1_estimate 3 = .ok (.iload_n 2, 1) := by decide +kernel
theorem dX1_estimate_4 : decode cX1_estimate 4 = .ok (.invokevirtual 112, 3) := by decide +kernel
theorem dX1_estimate_7 : decode cX1_estimate 7 = .ok (.ifCond .eq 7, 3) := by decide +kernel
theorem dX1_estimate_10 : decode cX1_estimate 10 = .ok (.iconst 0, 1) := by decide +kernel
theorem dX1_estimate_11 : decode cX1_estimate 11 = .ok (.goto 4, 3) := by decide +kernel
theorem dX1_estimate_14 : decode cX1_estimate 14 = .ok (.iconst 1, 1) := by decide +kernel
theorem dX1_estimate_15 : decode cX1_estimate 15 = .ok (.putfield 45, 3) := by decide +kernel
theorem dX1_estimate_18 : decode cX1_estimate 18 = .ok (.aload_n 0, 1) := by decide +kernel
theorem dX1_estimate_19 : decode cX1_estimate 19 = .ok (.getfield 45, 3) := by decide +kernel
theorem dX1_estimate_22 : decode cX1_estimate 22 = .ok (.ifCond .le 7, 3) := by decide +kernel
theorem dX1_estimate_25 : decode cX1_estimate 25 = .ok (.dconst 0, 1) := by decide +kernel
theorem dX1_estimate_26 : decode cX1_estimate 26 = .ok (.goto 14, 3) := by decide +kernel
theorem dX1_estimate_29 : decode cX1_estimate 29 = .ok (.aload_n 0, 1) := by decide +kernel
theorem dX1_estimate_30 : decode cX1_estimate 30 = .ok (.getfield 23, 3) := by decide +kernel
theorem dX1_estimate_33 : decode cX1_estimate 33 = .ok (.bipush 6, 2) := by decide +kernel
theorem dX1_estimate_35 : decode cX1_estimate 35 = .ok (.iload_n 1, 1) := by decide +kernel
theorem dX1_estimate_36 : decode cX1_estimate 36 = .ok (.imul, 1) := by decide +kernel
theorem dX1_estimate_37 : decode cX1_estimate 37 = .ok (.iload_n 2, 1) := by decide +kernel
theorem dX1_estimate_38 : decode cX1_estimate 38 = .ok (.iadd, 1) := by decide +kernel
theorem dX1_estimate_39 : decode cX1_estimate 39 = .ok (.daload, 1) := by decide +kernel
theorem dX1_estimate_40 : decode cX1_estimate 40 = .ok (.dreturn, 1) := by decide +kernel
end
section
set_option maxRecDepth 20000 in
theorem ggX1_sum_X1_isArm : GoodIn wsX1_sum wsX1_isArm := goodIn_r _ [6, 7, 8, 9, 5, 10, 20, 21, 22, 23, 24, 25, 26, 27, 28, 29, 30, 31, 32] (by decide +kernel) (by decide +kernel)
set_option maxRecDepth 20000 in
theorem gX1_sum_X1_isArm : GoodIn wsX1_sum (wsV RX1 58 RX1 yX1_isArm wsX1_isArm) := goodIn_app (goodIn_of _ (by decide +kernel)) ggX1_sum_X1_isArm
set_option maxRecDepth 20000 in
theorem ggX1_sum_X1_columnSum : GoodIn wsX1_sum wsX1_columnSum := goodIn_ca (goodIn_r _ [14, 7, 15, 20, 21, 22, 23, 24, 25, 26, 27, 28, 29, 30, 31, 32] (by decide +kernel) (by decide +kernel)) (goodIn_sub (fun _ h => List.mem_cons_of_mem _ (List.mem_append_right _ h)) (by decide +kernel))
set_option maxRecDepth 20000 in
theorem gX1_sum_X1_columnSum : GoodIn wsX1_sum (wsV RX1 88 RX1 yX1_columnSum wsX1_columnSum) := goodIn_app (goodIn_of _ (by decide +kernel)) ggX1_sum_X1_columnSum
set_option maxRecDepth 20000 in
theorem ggX1_sum_X1_rowSum : GoodIn wsX1_sum wsX1_rowSum := goodIn_ca (goodIn_r _ [19, 7, 15, 20, 21, 22, 23, 24, 25, 26, 27, 28, 29, 30, 31, 32] (by decide +kernel) (by decide +kernel)) (goodIn_sub (fun _ h => List.mem_cons_of_mem _ (List.mem_append_right _ h)) (by decide +kernel))
set_option maxRecDepth 20000 in
theorem gX1_sum_X1_rowSum : GoodIn wsX1_sum (wsV RX1 84 RX1 yX1_rowSum wsX1_rowSum) := goodIn_app (goodIn_of _ (by decide +kernel)) ggX1_sum_X1_rowSum
theorem dX1_sum_0 : decode cX1_sum 0 = .ok (.aload_n 0, 1) := by decide +kernel
theorem dX1_sum_1 : decode cX1_sum 1 = .ok (.aload_n 0, 1) := by decide +kernel
theorem dX1_sum_2 : decode cX1_sum 2 = .ok (.iload_n 1, 1) := by decide +kernel
theorem dX1_sum_3 : decode cX1_sum 3 = .ok (.invokevirtual 58, 3) := by decide +kernel
theorem dX1_sum_6 : decode cX1_sum 6 = .ok (.ifCond .eq 7, 3) := by decide +kernel
theorem dX1_sum_9 : decode cX1_sum 9 = .ok (.iconst 0, 1) := by decide +kernel
theorem dX1_sum_10 : decode cX1_sum 10 = .ok (.goto 4, 3) := by decide +kernel
theorem dX1_sum_13 : decode cX1_sum 13 = .ok (.iconst 1, 1) := by decide +kernel
theorem dX1_sum_14 : decode cX1_sum 14 = .ok (.putfield 45, 3) := by decide +kernel
theorem dX1_sum_17 : decode cX1_sum 17 = .ok (.aload_n 0, 1) := by decide +kernel
theorem dX1_sum_18 : decode cX1_sum 18 = .ok (.getfield 45, 3) := by decide +kernel
theorem dX1_sum_21 : decode cX1_sum 21 = .ok (.ifCond .le 7, 3) := by decide +kernel
theorem dX1_sum_24 : decode cX1_sum 24 = .ok (.dconst 0, 1) := by decide +kernel
theorem dX1_sum_25 : decode cX1_sum 25 = .ok (.goto 20, 3) := by decide +kernel
theorem dX1_sum_28 : decode cX1_sum 28 = .ok (.iload_n 2, 1) := by decide +kernel
theorem dX1_sum_29 : decode cX1_sum 29 = .ok (.ifCond .eq 11, 3) := by decide +kernel
theorem dX1_sum_32 : decode cX1_sum 32 = .ok (.aload_n 0, 1) := by decide +kernel
theorem dX1_sum_33 : decode cX1_sum 33 = .ok (.iload_n 1, 1) := by decide +kernel
theorem dX1_sum_34 : decode cX1_sum 34 = .ok (.invokevirtual 88, 3) := by decide +kernel
theorem dX1_sum_37 : decode cX1_sum 37 = .ok (.goto 8, 3) := by decide +kernel
theorem dX1_sum_40 : decode cX1_sum 40 = .ok (.aload_n 0, 1) := by decide +kernel
theorem dX1_sum_41 : decode cX1_sum 41 = .ok (.iload_n 1, 1) := by decide +kernel
theorem dX1_sum_42 : decode cX1_sum 42 = .ok (.invokevirtual 84, 3) := by decide +kernel
theorem dX1_sum_45 : decode cX1_sum 45 = .ok (.dreturn, 1) := by decide +kernel
set_option maxRecDepth 20000 in
theorem ggX1_misfit_X1_misfitNow : GoodIn wsX1_misfit wsX1_misfitNow := goodIn_ca (goodIn_r _ [6, 7, 8, 9, 10, 11, 12, 5, 13, 14, 15, 16, 17, 18, 19, 20, 21, 22, 23, 24, 25, 26, 27, 28, 29, 30, 31, 32, 33, 34] (by decide +kernel) (by decide +kernel)) (goodIn_sub (fun _ h => List.mem_cons_of_mem _ (List.mem_append_right _ h)) (by decide +kernel))
set_option maxRecDepth 20000 in
theorem gX1_misfit_X1_misfitNow : GoodIn wsX1_misfit (wsV RX1 106 RX1 yX1_misfitNow wsX1_misfitNow) := goodIn_app (goodIn_of _ (by decide +kernel)) ggX1_misfit_X1_misfitNow
theorem dX1_misfit_0 : decode cX1_misfit 0 = .ok (.aload_n 0, 1) := by decide +kernel
theorem dX1_misfit_1 : decode cX1_misfit 1 = .ok (.iconst 0, 1) := by decide +kernel
theorem dX1_misfit_2 : decode cX1_misfit 2 = .ok (.putfield 45, 3) := by decide +kernel
theorem dX1_misfit_5 : decode cX1_misfit 5 = .ok (.aload_n 0, 1) := by decide +kernel
theorem dX1_misfit_6 : decode cX1_misfit 6 = .ok (.invokevirtual 106, 3) := by decide +kernel
theorem dX1_misfit_9 : decode cX1_misfit 9 = .ok (.dreturn, 1) := by decide +kernel
set_option maxRecDepth 20000 in
theorem ggX1_share_X1_areArms : GoodIn wsX1_share wsX1_areArms := goodIn_r _ [7, 8, 9, 10, 6, 11, 12, 13, 14, 15, 20, 21, 22, 23, 24, 25, 26, 27, 28, 29, 30, 31, 32] (by decide +kernel) (by decide +kernel)
set_option maxRecDepth 20000 in
theorem gX1_share_X1_areArms : GoodIn wsX1_share (wsV RX1 112 RX1 yX1_areArms wsX1_areArms) := goodIn_app (goodIn_of _ (by decide +kernel)) ggX1_share_X1_areArms
set_option maxRecDepth 20000 in
theorem ggX1_share_X1_rowSum : GoodIn wsX1_share wsX1_rowSum := goodIn_ca (goodIn_r _ [19, 12, 2, 20, 21, 22, 23, 24, 25, 26, 27, 28, 29, 30, 31, 32] (by decide +kernel) (by decide +kernel)) (goodIn_sub (fun _ h => List.mem_cons_of_mem _ (List.mem_append_right _ h)) (by decide +kernel))
set_option maxRecDepth 20000 in
theorem gX1_share_X1_rowSum : GoodIn wsX1_share (wsV RX1 84 RX1 yX1_rowSum wsX1_rowSum) := goodIn_app (goodIn_of _ (by decide +kernel)) ggX1_share_X1_rowSum
theorem dX1_share_0 : decode cX1_share 0 = .ok (.aload_n 0, 1) := by decide +kernel
theorem dX1_share_1 : decode cX1_share 1 = .ok (.aload_n 0, 1) := by decide +kernel
theorem dX1_share_2 : decode cX1_share 2 = .ok (.iload_n 1, 1) := by decide +kernel
theorem dX1_share_3 : decode cX1_share 3 = .ok (.iload_n 2, 1) := by decide +kernel
theorem dX1_share_4 : decode cX1_share 4 = .ok (.invokevirtual 112, 3) := by decide +kernel
theorem dX1_share_7 : decode cX1_share 7 = .ok (.ifCond .eq 7, 3) := by decide +kernel
theorem dX1_share_10 : decode cX1_share 10 = .ok (.iconst 0, 1) := by decide +kernel
theorem dX1_share_11 : decode cX1_share 11 = .ok (.goto 4, 3) := by decide +kernel
theorem dX1_share_14 : decode cX1_share 14 = .ok (.iconst 1, 1) := by decide +kernel
theorem dX1_share_15 : decode cX1_share 15 = .ok (.putfield 45, 3) := by decide +kernel
theorem dX1_share_18 : decode cX1_share 18 = .ok (.aload_n 0, 1) := by decide +kernel
theorem dX1_share_19 : decode cX1_share 19 = .ok (.getfield 45, 3) := by decide +kernel
theorem dX1_share_22 : decode cX1_share 22 = .ok (.ifCond .gt 13, 3) := by decide +kernel
theorem dX1_share_25 : decode cX1_share 25 = .ok (.aload_n 0, 1) := by decide +kernel
theorem dX1_share_26 : decode cX1_share 26 = .ok (.iload_n 1, 1) := by decide +kernel
theorem dX1_share_27 : decode cX1_share 27 = .ok (.invokevirtual 84, 3) := by decide +kernel
theorem dX1_share_30 : decode cX1_share 30 = .ok (.dconst 0, 1) := by decide +kernel
theorem dX1_share_31 : decode cX1_share 31 = .ok (.dcmp .l, 1) := by decide +kernel
theorem dX1_share_32 : decode cX1_share 32 = .ok (.ifCond .gt 7, 3) := by decide +kernel
theorem dX1_share_35 : decode cX1_share 35 = .ok (.dconst 0, 1) := by decide +kernel
theorem dX1_share_36 : decode cX1_share 36 = .ok (.goto 20, 3) := by decide +kernel
theorem dX1_share_39 : decode cX1_share 39 = .ok (.aload_n 0, 1) := by decide +kernel
theorem dX1_share_40 : decode cX1_share 40 = .ok (.getfield 23, 3) := by decide +kernel
theorem dX1_share_43 : decode cX1_share 43 = .ok (.bipush 6, 2) := by decide +kernel
theorem dX1_share_45 : decode cX1_share 45 = .ok (.iload_n 1, 1) := by decide +kernel
theorem dX1_share_46 : decode cX1_share 46 = .ok (.imul, 1) := by decide +kernel
theorem dX1_share_47 : decode cX1_share 47 = .ok (.iload_n 2, 1) := by decide +kernel
theorem dX1_share_48 : decode cX1_share 48 = .ok (.iadd, 1) := by decide +kernel
theorem dX1_share_49 : decode cX1_share 49 = .ok (.daload, 1) := by decide +kernel
theorem dX1_share_50 : decode cX1_share 50 = .ok (.aload_n 0, 1) := by decide +kernel
theorem dX1_share_51 : decode cX1_share 51 = .ok (.iload_n 1, 1) := by decide +kernel
theorem dX1_share_52 : decode cX1_share 52 = .ok (.invokevirtual 84, 3) := by decide +kernel
theorem dX1_share_55 : decode cX1_share 55 = .ok (.ddiv, 1) := by decide +kernel
theorem dX1_share_56 : decode cX1_share 56 = .ok (.dreturn, 1) := by decide +kernel
set_option maxRecDepth 20000 in
theorem ggX1_crossRatio_X1_areArms : GoodIn wsX1_crossRatio wsX1_areArms := goodIn_r _ [7, 8, 9, 10, 6, 11, 12, 13, 14, 15, 16, 17, 18, 19, 20, 21, 22, 23, 24, 25, 26, 27, 28] (by decide +kernel) (by decide +kernel)
set_option maxRecDepth 20000 in
theorem gX1_crossRatio_X1_areArms : GoodIn wsX1_crossRatio (wsV RX1 112 RX1 yX1_areArms wsX1_areArms) := goodIn_app (goodIn_of _ (by decide +kernel)) ggX1_crossRatio_X1_areArms
theorem dX1_crossRatio_0 : decode cX1_crossRatio 0 = .ok (.aload_n 0, 1) := by decide +kernel
theorem dX1_crossRatio_1 : decode cX1_crossRatio 1 = .ok (.aload_n 0, 1) := by decide +kernel
theorem dX1_crossRatio_2 : decode cX1_crossRatio 2 = .ok (.iload_n 1, 1) := by decide +kernel
theorem dX1_crossRatio_3 : decode cX1_crossRatio 3 = .ok (.iload_n 2, 1) := by decide +kernel
theorem dX1_crossRatio_4 : decode cX1_crossRatio 4 = .ok (.invokevirtual 112, 3) := by decide +kernel
theorem dX1_crossRatio_7 : decode cX1_crossRatio 7 = .ok (.ifCond .eq 17, 3) := by decide +kernel
theorem dX1_crossRatio_10 : decode cX1_crossRatio 10 = .ok (.aload_n 0, 1) := by decide +kernel
theorem dX1_crossRatio_11 : decode cX1_crossRatio 11 = .ok (.iload_n 3, 1) := by decide +kernel
theorem dX1_crossRatio_12 : decode cX1_crossRatio 12 = .ok (.iload 4, 2) := by decide +kernel
theorem dX1_crossRatio_14 : decode cX1_crossRatio 14 = .ok (.invokevirtual 112, 3) := by decide +kernel
theorem dX1_crossRatio_17 : decode cX1_crossRatio 17 = .ok (.ifCond .eq 7, 3) := by decide +kernel
theorem dX1_crossRatio_20 : decode cX1_crossRatio 20 = .ok (.iconst 0, 1) := by decide +kernel
theorem dX1_crossRatio_21 : decode cX1_crossRatio 21 = .ok (.goto 4, 3) := by decide +kernel
theorem dX1_crossRatio_24 : decode cX1_crossRatio 24 = .ok (.iconst 1, 1) := by decide +kernel
theorem dX1_crossRatio_25 : decode cX1_crossRatio 25 = .ok (.putfield 45, 3) := by decide +kernel
theorem dX1_crossRatio_28 : decode cX1_crossRatio 28 = .ok (.aload_n 0, 1) := by decide +kernel
theorem dX1_crossRatio_29 : decode cX1_crossRatio 29 = .ok (.getfield 45, 3) := by decide +kernel
theorem dX1_crossRatio_32 : decode cX1_crossRatio 32 = .ok (.ifCond .le 5, 3) := by decide +kernel
theorem dX1_crossRatio_35 : decode cX1_crossRatio 35 = .ok (.dconst 0, 1) := by decide +kernel
theorem dX1_crossRatio_36 : decode cX1_crossRatio 36 = .ok (.dreturn, 1) := by decide +kernel
theorem dX1_crossRatio_37 : decode cX1_crossRatio 37 = .ok (.aload_n 0, 1) := by decide +kernel
theorem dX1_crossRatio_38 : decode cX1_crossRatio 38 = .ok (.getfield 23, 3) := by decide +kernel
theorem dX1_crossRatio_41 : decode cX1_crossRatio 41 = .ok (.bipush 6, 2) := by decide +kernel
theorem dX1_crossRatio_43 : decode cX1_crossRatio 43 = .ok (.iload_n 1, 1) := by decide +kernel
theorem dX1_crossRatio_44 : decode cX1_crossRatio 44 = .ok (.imul, 1) := by decide +kernel
theorem dX1_crossRatio_45 : decode cX1_crossRatio 45 = .ok (.iload_n 3, 1) := by decide +kernel
theorem dX1_crossRatio_46 : decode cX1_crossRatio 46 = .ok (.iadd, 1) := by decide +kernel
theorem dX1_crossRatio_47 : decode cX1_crossRatio 47 = .ok (.daload, 1) := by decide +kernel
theorem dX1_crossRatio_48 : decode cX1_crossRatio 48 = .ok (.aload_n 0, 1) := by decide +kernel
theorem dX1_crossRatio_49 : decode cX1_crossRatio 49 = .ok (.getfield 23, 3) := by decide +kernel
theorem dX1_crossRatio_52 : decode cX1_crossRatio 52 = .ok (.bipush 6, 2) := by decide +kernel
theorem dX1_crossRatio_54 : decode cX1_crossRatio 54 = .ok (.iload_n 2, 1) := by decide +kernel
theorem dX1_crossRatio_55 : decode cX1_crossRatio 55 = .ok (.imul, 1) := by decide +kernel
theorem dX1_crossRatio_56 : decode cX1_crossRatio 56 = .ok (.iload 4, 2) := by decide +kernel
theorem dX1_crossRatio_58 : decode cX1_crossRatio 58 = .ok (.iadd, 1) := by decide +kernel
theorem dX1_crossRatio_59 : decode cX1_crossRatio 59 = .ok (.daload, 1) := by decide +kernel
theorem dX1_crossRatio_60 : decode cX1_crossRatio 60 = .ok (.dmul, 1) := by decide +kernel
theorem dX1_crossRatio_61 : decode cX1_crossRatio 61 = .ok (.dstore 5, 2) := by decide +kernel
theorem dX1_crossRatio_63 : decode cX1_crossRatio 63 = .ok (.aload_n 0, 1) := by decide +kernel
theorem dX1_crossRatio_64 : decode cX1_crossRatio 64 = .ok (.getfield 23, 3) := by decide +kernel
theorem dX1_crossRatio_67 : decode cX1_crossRatio 67 = .ok (.bipush 6, 2) := by decide +kernel
theorem dX1_crossRatio_69 : decode cX1_crossRatio 69 = .ok (.iload_n 1, 1) := by decide +kernel
theorem dX1_crossRatio_70 : decode cX1_crossRatio 70 = .ok (.imul, 1) := by decide +kernel
theorem dX1_crossRatio_71 : decode cX1_crossRatio 71 = .ok (.iload 4, 2) := by decide +kernel
theorem dX1_crossRatio_73 : decode cX1_crossRatio 73 = .ok (.iadd, 1) := by decide +kernel
theorem dX1_crossRatio_74 : decode cX1_crossRatio 74 = .ok (.daload, 1) := by decide +kernel
theorem dX1_crossRatio_75 : decode cX1_crossRatio 75 = .ok (.aload_n 0, 1) := by decide +kernel
theorem dX1_crossRatio_76 : decode cX1_crossRatio 76 = .ok (.getfield 23, 3) := by decide +kernel
theorem dX1_crossRatio_79 : decode cX1_crossRatio 79 = .ok (.bipush 6, 2) := by decide +kernel
theorem dX1_crossRatio_81 : decode cX1_crossRatio 81 = .ok (.iload_n 2, 1) := by decide +kernel
theorem dX1_crossRatio_82 : decode cX1_crossRatio 82 = .ok (.imul, 1) := by decide +kernel
theorem dX1_crossRatio_83 : decode cX1_crossRatio 83 = .ok (.iload_n 3, 1) := by decide +kernel
theorem dX1_crossRatio_84 : decode cX1_crossRatio 84 = .ok (.iadd, 1) := by decide +kernel
theorem dX1_crossRatio_85 : decode cX1_crossRatio 85 = .ok (.daload, 1) := by decide +kernel
theorem dX1_crossRatio_86 : decode cX1_crossRatio 86 = .ok (.dmul, 1) := by decide +kernel
theorem dX1_crossRatio_87 : decode cX1_crossRatio 87 = .ok (.dstore 7, 2) := by decide +kernel
theorem dX1_crossRatio_89 : decode cX1_crossRatio 89 = .ok (.aload_n 0, 1) := by decide +kernel
theorem dX1_crossRatio_90 : decode cX1_crossRatio 90 = .ok (.dload 7, 2) := by decide +kernel
theorem dX1_crossRatio_92 : decode cX1_crossRatio 92 = .ok (.dconst 0, 1) := by decide +kernel
theorem dX1_crossRatio_93 : decode cX1_crossRatio 93 = .ok (.dcmp .l, 1) := by decide +kernel
theorem dX1_crossRatio_94 : decode cX1_crossRatio 94 = .ok (.ifCond .le 7, 3) := by decide +kernel
theorem dX1_crossRatio_97 : decode cX1_crossRatio 97 = .ok (.iconst 0, 1) := by decide +kernel
theorem dX1_crossRatio_98 : decode cX1_crossRatio 98 = .ok (.goto 4, 3) := by decide +kernel
theorem dX1_crossRatio_101 : decode cX1_crossRatio 101 = .ok (.iconst 2, 1) := by decide +kernel
theorem dX1_crossRatio_102 : decode cX1_crossRatio 102 = .ok (.putfield 45, 3) := by decide +kernel
theorem dX1_crossRatio_105 : decode cX1_crossRatio 105 = .ok (.aload_n 0, 1) := by decide +kernel
theorem dX1_crossRatio_106 : decode cX1_crossRatio 106 = .ok (.getfield 45, 3) := by decide +kernel
theorem dX1_crossRatio_109 : decode cX1_crossRatio 109 = .ok (.ifCond .le 7, 3) := by decide +kernel
theorem dX1_crossRatio_112 : decode cX1_crossRatio 112 = .ok (.dconst 0, 1) := by decide +kernel
theorem dX1_crossRatio_113 : decode cX1_crossRatio 113 = .ok (.goto 8, 3) := by decide +kernel
theorem dX1_crossRatio_116 : decode cX1_crossRatio 116 = .ok (.dload 5, 2) := by decide +kernel
theorem dX1_crossRatio_118 : decode cX1_crossRatio 118 = .ok (.dload 7, 2) := by decide +kernel
theorem dX1_crossRatio_120 : decode cX1_crossRatio 120 = .ok (.ddiv, 1) := by decide +kernel
theorem dX1_crossRatio_121 : decode cX1_crossRatio 121 = .ok (.dreturn, 1) := by decide +kernel
theorem dX1_busiest_0 : decode cX1_busiest 0 = .ok (.iconst (-1), 1) := by decide +kernel
theorem dX1_busiest_1 : decode cX1_busiest 1 = .ok (.istore_n 1, 1) := by decide +kernel
theorem dX1_busiest_2 : decode cX1_busiest 2 = .ok (.dconst 0, 1) := by decide +kernel
theorem dX1_busiest_3 : decode cX1_busiest 3 = .ok (.dstore_n 2, 1) := by decide +kernel
theorem dX1_busiest_4 : decode cX1_busiest 4 = .ok (.iconst 0, 1) := by decide +kernel
theorem dX1_busiest_5 : decode cX1_busiest 5 = .ok (.istore 4, 2) := by decide +kernel
theorem dX1_busiest_7 : decode cX1_busiest 7 = .ok (.iload 4, 2) := by decide +kernel
theorem dX1_busiest_9 : decode cX1_busiest 9 = .ok (.aload_n 0, 1) := by decide +kernel
theorem dX1_busiest_10 : decode cX1_busiest 10 = .ok (.getfield 7, 3) := by decide +kernel
theorem dX1_busiest_13 : decode cX1_busiest 13 = .ok (.if_icmp .ge 76, 3) := by decide +kernel
theorem dX1_busiest_16 : decode cX1_busiest 16 = .ok (.iconst 0, 1) := by decide +kernel
theorem dX1_busiest_17 : decode cX1_busiest 17 = .ok (.istore 5, 2) := by decide +kernel
theorem dX1_busiest_19 : decode cX1_busiest 19 = .ok (.iload 5, 2) := by decide +kernel
theorem dX1_busiest_21 : decode cX1_busiest 21 = .ok (.aload_n 0, 1) := by decide +kernel
theorem dX1_busiest_22 : decode cX1_busiest 22 = .ok (.getfield 7, 3) := by decide +kernel
theorem dX1_busiest_25 : decode cX1_busiest 25 = .ok (.if_icmp .ge 58, 3) := by decide +kernel
theorem dX1_busiest_28 : decode cX1_busiest 28 = .ok (.aload_n 0, 1) := by decide +kernel
theorem dX1_busiest_29 : decode cX1_busiest 29 = .ok (.getfield 23, 3) := by decide +kernel
theorem dX1_busiest_32 : decode cX1_busiest 32 = .ok (.bipush 6, 2) := by decide +kernel
theorem dX1_busiest_34 : decode cX1_busiest 34 = .ok (.iload 4, 2) := by decide +kernel
theorem dX1_busiest_36 : decode cX1_busiest 36 = .ok (.imul, 1) := by decide +kernel
theorem dX1_busiest_37 : decode cX1_busiest 37 = .ok (.iload 5, 2) := by decide +kernel
theorem dX1_busiest_39 : decode cX1_busiest 39 = .ok (.iadd, 1) := by decide +kernel
theorem dX1_busiest_40 : decode cX1_busiest 40 = .ok (.daload, 1) := by decide +kernel
theorem dX1_busiest_41 : decode cX1_busiest 41 = .ok (.dstore 6, 2) := by decide +kernel
theorem dX1_busiest_43 : decode cX1_busiest 43 = .ok (.dload 6, 2) := by decide +kernel
theorem dX1_busiest_45 : decode cX1_busiest 45 = .ok (.dload_n 2, 1) := by decide +kernel
theorem dX1_busiest_46 : decode cX1_busiest 46 = .ok (.dcmp .l, 1) := by decide +kernel
theorem dX1_busiest_47 : decode cX1_busiest 47 = .ok (.ifCond .le 14, 3) := by decide +kernel
theorem dX1_busiest_50 : decode cX1_busiest 50 = .ok (.bipush 10, 2) := by decide +kernel
theorem dX1_busiest_52 : decode cX1_busiest 52 = .ok (.iload 4, 2) := by decide +kernel
theorem dX1_busiest_54 : decode cX1_busiest 54 = .ok (.imul, 1) := by decide +kernel
theorem dX1_busiest_55 : decode cX1_busiest 55 = .ok (.iload 5, 2) := by decide +kernel
theorem dX1_busiest_57 : decode cX1_busiest 57 = .ok (.iadd, 1) := by decide +kernel
theorem dX1_busiest_58 : decode cX1_busiest 58 = .ok (.goto 4, 3) := by decide +kernel
theorem dX1_busiest_61 : decode cX1_busiest 61 = .ok (.iload_n 1, 1) := by decide +kernel
theorem dX1_busiest_62 : decode cX1_busiest 62 = .ok (.istore_n 1, 1) := by decide +kernel
theorem dX1_busiest_63 : decode cX1_busiest 63 = .ok (.dload 6, 2) := by decide +kernel
theorem dX1_busiest_65 : decode cX1_busiest 65 = .ok (.dload_n 2, 1) := by decide +kernel
theorem dX1_busiest_66 : decode cX1_busiest 66 = .ok (.dcmp .l, 1) := by decide +kernel
theorem dX1_busiest_67 : decode cX1_busiest 67 = .ok (.ifCond .le 8, 3) := by decide +kernel
theorem dX1_busiest_70 : decode cX1_busiest 70 = .ok (.dload 6, 2) := by decide +kernel
theorem dX1_busiest_72 : decode cX1_busiest 72 = .ok (.goto 4, 3) := by decide +kernel
theorem dX1_busiest_75 : decode cX1_busiest 75 = .ok (.dload_n 2, 1) := by decide +kernel
theorem dX1_busiest_76 : decode cX1_busiest 76 = .ok (.dstore_n 2, 1) := by decide +kernel
theorem dX1_busiest_77 : decode cX1_busiest 77 = .ok (.iinc 5 1, 3) := by decide +kernel
theorem dX1_busiest_80 : decode cX1_busiest 80 = .ok (.goto (-61), 3) := by decide +kernel
theorem dX1_busiest_83 : decode cX1_busiest 83 = .ok (.iinc 4 1, 3) := by decide +kernel
theorem dX1_busiest_86 : decode cX1_busiest 86 = .ok (.goto (-79), 3) := by decide +kernel
theorem dX1_busiest_89 : decode cX1_busiest 89 = .ok (.iload_n 1, 1) := by decide +kernel
theorem dX1_busiest_90 : decode cX1_busiest 90 = .ok (.ireturn, 1) := by decide +kernel
set_option maxRecDepth 20000 in
theorem ggX1_busiestTurn_X1_busiest : GoodIn wsX1_busiestTurn wsX1_busiest := goodIn_ca (goodIn_r _ [6, 7, 8, 9, 10, 11, 12, 13, 14, 15, 16, 17, 18, 19, 20, 21] (by decide +kernel) (by decide +kernel)) (goodIn_sub (fun _ h => List.mem_cons_of_mem _ (List.mem_append_right _ h)) (by decide +kernel))
set_option maxRecDepth 20000 in
theorem gX1_busiestTurn_X1_busiest : GoodIn wsX1_busiestTurn (wsV RX1 116 RX1 yX1_busiest wsX1_busiest) := goodIn_app (goodIn_of _ (by decide +kernel)) ggX1_busiestTurn_X1_busiest
theorem dX1_busiestTurn_0 : decode cX1_busiestTurn 0 = .ok (.aload_n 0, 1) := by decide +kernel
theorem dX1_busiestTurn_1 : decode cX1_busiestTurn 1 = .ok (.iconst 0, 1) := by decide +kernel
theorem dX1_busiestTurn_2 : decode cX1_busiestTurn 2 = .ok (.putfield 45, 3) := by decide +kernel
theorem dX1_busiestTurn_5 : decode cX1_busiestTurn 5 = .ok (.aload_n 0, 1) := by decide +kernel
theorem dX1_busiestTurn_6 : decode cX1_busiestTurn 6 = .ok (.invokevirtual 116, 3) := by decide +kernel
theorem dX1_busiestTurn_9 : decode cX1_busiestTurn 9 = .ok (.ireturn, 1) := by decide +kernel
theorem dX1_nextOf_0 : decode cX1_nextOf 0 = .ok (.iconst (-1), 1) := by decide +kernel
theorem dX1_nextOf_1 : decode cX1_nextOf 1 = .ok (.istore_n 2, 1) := by decide +kernel
theorem dX1_nextOf_2 : decode cX1_nextOf 2 = .ok (.iconst 0, 1) := by decide +kernel
theorem dX1_nextOf_3 : decode cX1_nextOf 3 = .ok (.istore_n 3, 1) := by decide +kernel
theorem dX1_nextOf_4 : decode cX1_nextOf 4 = .ok (.iload_n 3, 1) := by decide +kernel
theorem dX1_nextOf_5 : decode cX1_nextOf 5 = .ok (.aload_n 0, 1) := by decide +kernel
theorem dX1_nextOf_6 : decode cX1_nextOf 6 = .ok (.getfield 7, 3) := by decide +kernel
theorem dX1_nextOf_9 : decode cX1_nextOf 9 = .ok (.if_icmp .ge 73, 3) := by decide +kernel
theorem dX1_nextOf_12 : decode cX1_nextOf 12 = .ok (.aload_n 0, 1) := by decide +kernel
theorem dX1_nextOf_13 : decode cX1_nextOf 13 = .ok (.getfield 20, 3) := by decide +kernel
theorem dX1_nextOf_16 : decode cX1_nextOf 16 = .ok (.bipush 6, 2) := by decide +kernel
theorem dX1_nextOf_18 : decode cX1_nextOf 18 = .ok (.iload_n 1, 1) := by decide +kernel
theorem dX1_nextOf_19 : decode cX1_nextOf 19 = .ok (.imul, 1) := by decide +kernel
theorem dX1_nextOf_20 : decode cX1_nextOf 20 = .ok (.iload_n 3, 1) := by decide +kernel
theorem dX1_nextOf_21 : decode cX1_nextOf 21 = .ok (.iadd, 1) := by decide +kernel
theorem dX1_nextOf_22 : decode cX1_nextOf 22 = .ok (.iaload, 1) := by decide +kernel
theorem dX1_nextOf_23 : decode cX1_nextOf 23 = .ok (.ifCond .le 18, 3) := by decide +kernel
theorem dX1_nextOf_26 : decode cX1_nextOf 26 = .ok (.aload_n 0, 1) := by decide +kernel
theorem dX1_nextOf_27 : decode cX1_nextOf 27 = .ok (.getfield 30, 3) := by decide +kernel
theorem dX1_nextOf_30 : decode cX1_nextOf 30 = .ok (.iload_n 3, 1) := by decide +kernel
theorem dX1_nextOf_31 : decode cX1_nextOf 31 = .ok (.daload, 1) := by decide +kernel
theorem dX1_nextOf_32 : decode cX1_nextOf 32 = .ok (.dconst 0, 1) := by decide +kernel
theorem dX1_nextOf_33 : decode cX1_nextOf 33 = .ok (.dcmp .l, 1) := by decide +kernel
theorem dX1_nextOf_34 : decode cX1_nextOf 34 = .ok (.ifCond .lt 7, 3) := by decide +kernel
theorem dX1_nextOf_37 : decode cX1_nextOf 37 = .ok (.iconst 1, 1) := by decide +kernel
theorem dX1_nextOf_38 : decode cX1_nextOf 38 = .ok (.goto 4, 3) := by decide +kernel
theorem dX1_nextOf_41 : decode cX1_nextOf 41 = .ok (.iconst 0, 1) := by decide +kernel
theorem dX1_nextOf_42 : decode cX1_nextOf 42 = .ok (.istore 4, 2) := by decide +kernel
theorem dX1_nextOf_44 : decode cX1_nextOf 44 = .ok (.iload 4, 2) := by decide +kernel
theorem dX1_nextOf_46 : decode cX1_nextOf 46 = .ok (.ifCond .eq 28, 3) := by decide +kernel
theorem dX1_nextOf_49 : decode cX1_nextOf 49 = .ok (.iload_n 2, 1) := by decide +kernel
theorem dX1_nextOf_50 : decode cX1_nextOf 50 = .ok (.iconst (-1), 1) := by decide +kernel
theorem dX1_nextOf_51 : decode cX1_nextOf 51 = .ok (.if_icmp .eq 19, 3) := by decide +kernel
theorem dX1_nextOf_54 : decode cX1_nextOf 54 = .ok (.aload_n 0, 1) := by decide +kernel
theorem dX1_nextOf_55 : decode cX1_nextOf 55 = .ok (.getfield 30, 3) := by decide +kernel
theorem dX1_nextOf_58 : decode cX1_nextOf 58 = .ok (.iload_n 3, 1) := by decide +kernel
theorem dX1_nextOf_59 : decode cX1_nextOf 59 = .ok (.daload, 1) := by decide +kernel
theorem dX1_nextOf_60 : decode cX1_nextOf 60 = .ok (.aload_n 0, 1) := by decide +kernel
theorem dX1_nextOf_61 : decode cX1_nextOf 61 = .ok (.getfield 30, 3) := by decide +kernel
theorem dX1_nextOf_64 : decode cX1_nextOf 64 = .ok (.iload_n 2, 1) := by decide +kernel
theorem dX1_nextOf_65 : decode cX1_nextOf 65 = .ok (.daload, 1) := by decide +kernel
theorem dX1_nextOf_66 : decode cX1_nextOf 66 = .ok (.dcmp .l, 1) := by decide +kernel
theorem dX1_nextOf_67 : decode cX1_nextOf 67 = .ok (.ifCond .le 7, 3) := by decide +kernel
theorem dX1_nextOf_70 : decode cX1_nextOf 70 = .ok (.iload_n 3, 1) := by decide +kernel
theorem dX1_nextOf_71 : decode cX1_nextOf 71 = .ok (.goto 4, 3) := by decide +kernel
theorem dX1_nextOf_74 : decode cX1_nextOf 74 = .ok (.iload_n 2, 1) := by decide +kernel
theorem dX1_nextOf_75 : decode cX1_nextOf 75 = .ok (.istore_n 2, 1) := by decide +kernel
theorem dX1_nextOf_76 : decode cX1_nextOf 76 = .ok (.iinc 3 1, 3) := by decide +kernel
theorem dX1_nextOf_79 : decode cX1_nextOf 79 = .ok (.goto (-75), 3) := by decide +kernel
theorem dX1_nextOf_82 : decode cX1_nextOf 82 = .ok (.iload_n 2, 1) := by decide +kernel
theorem dX1_nextOf_83 : decode cX1_nextOf 83 = .ok (.ireturn, 1) := by decide +kernel
set_option maxRecDepth 20000 in
theorem ggX1_roundRow_X1_rowSum : GoodIn wsX1_roundRow wsX1_rowSum := goodIn_ca (goodIn_r _ [11, 1, 2, 17, 18, 19, 20, 21, 22, 23, 24, 25, 26, 27, 28, 29] (by decide +kernel) (by decide +kernel)) (goodIn_sub (fun _ h => List.mem_cons_of_mem _ (List.mem_append_right _ h)) (by decide +kernel))
set_option maxRecDepth 20000 in
theorem gX1_roundRow_X1_rowSum : GoodIn wsX1_roundRow (wsV RX1 84 RX1 yX1_rowSum wsX1_rowSum) := goodIn_app (goodIn_of _ (by decide +kernel)) ggX1_roundRow_X1_rowSum
set_option maxRecDepth 20000 in
theorem ggX1_roundRow_X1_nextOf : GoodIn wsX1_roundRow wsX1_nextOf := goodIn_ca (goodIn_r _ [15, 1, 16, 5, 17, 18, 19, 20, 21, 22, 23, 24, 25, 26, 27, 28, 29] (by decide +kernel) (by decide +kernel)) (goodIn_sub (fun _ h => List.mem_cons_of_mem _ (List.mem_append_right _ h)) (by decide +kernel))
set_option maxRecDepth 20000 in
theorem gX1_roundRow_X1_nextOf : GoodIn wsX1_roundRow (wsV RX1 119 RX1 yX1_nextOf wsX1_nextOf) := goodIn_app (goodIn_of _ (by decide +kernel)) ggX1_roundRow_X1_nextOf
theorem dX1_roundRow_0 : decode cX1_roundRow 0 = .ok (.aload_n 0, 1) := by decide +kernel
theorem dX1_roundRow_1 : decode cX1_roundRow 1 = .ok (.iload_n 1, 1) := by decide +kernel
theorem dX1_roundRow_2 : decode cX1_roundRow 2 = .ok (.invokevirtual 84, 3) := by decide +kernel
theorem dX1_roundRow_5 : decode cX1_roundRow 5 = .ok (.dstore_n 2, 1) := by decide +kernel
theorem dX1_roundRow_6 : decode cX1_roundRow 6 = .ok (.iconst 0, 1) := by decide +kernel
theorem dX1_roundRow_7 : decode cX1_roundRow 7 = .ok (.istore 4, 2) := by decide +kernel
theorem dX1_roundRow_9 : decode cX1_roundRow 9 = .ok (.iconst 0, 1) := by decide +kernel
theorem dX1_roundRow_10 : decode cX1_roundRow 10 = .ok (.istore 5, 2) := by decide +kernel
theorem dX1_roundRow_12 : decode cX1_roundRow 12 = .ok (.iload 5, 2) := by decide +kernel
theorem dX1_roundRow_14 : decode cX1_roundRow 14 = .ok (.aload_n 0, 1) := by decide +kernel
theorem dX1_roundRow_15 : decode cX1_roundRow 15 = .ok (.getfield 7, 3) := by decide +kernel
theorem dX1_roundRow_18 : decode cX1_roundRow 18 = .ok (.if_icmp .ge 98, 3) := by decide +kernel
theorem dX1_roundRow_21 : decode cX1_roundRow 21 = .ok (.dload_n 2, 1) := by decide +kernel
theorem dX1_roundRow_22 : decode cX1_roundRow 22 = .ok (.dconst 0, 1) := by decide +kernel
theorem dX1_roundRow_23 : decode cX1_roundRow 23 = .ok (.dcmp .l, 1) := by decide +kernel
theorem dX1_roundRow_24 : decode cX1_roundRow 24 = .ok (.ifCond .le 28, 3) := by decide +kernel
theorem dX1_roundRow_27 : decode cX1_roundRow 27 = .ok (.aload_n 0, 1) := by decide +kernel
theorem dX1_roundRow_28 : decode cX1_roundRow 28 = .ok (.getfield 23, 3) := by decide +kernel
theorem dX1_roundRow_31 : decode cX1_roundRow 31 = .ok (.bipush 6, 2) := by decide +kernel
theorem dX1_roundRow_33 : decode cX1_roundRow 33 = .ok (.iload_n 1, 1) := by decide +kernel
theorem dX1_roundRow_34 : decode cX1_roundRow 34 = .ok (.imul, 1) := by decide +kernel
theorem dX1_roundRow_35 : decode cX1_roundRow 35 = .ok (.iload 5, 2) := by decide +kernel
theorem dX1_roundRow_37 : decode cX1_roundRow 37 = .ok (.iadd, 1) := by decide +kernel
theorem dX1_roundRow_38 : decode cX1_roundRow 38 = .ok (.daload, 1) := by decide +kernel
theorem dX1_roundRow_39 : decode cX1_roundRow 39 = .ok (.aload_n 0, 1) := by decide +kernel
theorem dX1_roundRow_40 : decode cX1_roundRow 40 = .ok (.getfield 13, 3) := by decide +kernel
theorem dX1_roundRow_43 : decode cX1_roundRow 43 = .ok (.iload_n 1, 1) := by decide +kernel
theorem dX1_roundRow_44 : decode cX1_roundRow 44 = .ok (.iaload, 1) := by decide +kernel
theorem dX1_roundRow_45 : decode cX1_roundRow 45 = .ok (.i2d, 1) := by decide +kernel
theorem dX1_roundRow_46 : decode cX1_roundRow 46 = .ok (.dmul, 1) := by decide +kernel
theorem dX1_roundRow_47 : decode cX1_roundRow 47 = .ok (.dload_n 2, 1) := by decide +kernel
theorem dX1_roundRow_48 : decode cX1_roundRow 48 = .ok (.ddiv, 1) := by decide +kernel
theorem dX1_roundRow_49 : decode cX1_roundRow 49 = .ok (.goto 4, 3) := by decide +kernel
theorem dX1_roundRow_52 : decode cX1_roundRow 52 = .ok (.dconst 0, 1) := by decide +kernel
theorem dX1_roundRow_53 : decode cX1_roundRow 53 = .ok (.dstore 6, 2) := by decide +kernel
theorem dX1_roundRow_55 : decode cX1_roundRow 55 = .ok (.aload_n 0, 1) := by decide +kernel
theorem dX1_roundRow_56 : decode cX1_roundRow 56 = .ok (.getfield 27, 3) := by decide +kernel
theorem dX1_roundRow_59 : decode cX1_roundRow 59 = .ok (.bipush 6, 2) := by decide +kernel
theorem dX1_roundRow_61 : decode cX1_roundRow 61 = .ok (.iload_n 1, 1) := by decide +kernel
theorem dX1_roundRow_62 : decode cX1_roundRow 62 = .ok (.imul, 1) := by decide +kernel
theorem dX1_roundRow_63 : decode cX1_roundRow 63 = .ok (.iload 5, 2) := by decide +kernel
theorem dX1_roundRow_65 : decode cX1_roundRow 65 = .ok (.iadd, 1) := by decide +kernel
theorem dX1_roundRow_66 : decode cX1_roundRow 66 = .ok (.dload 6, 2) := by decide +kernel
theorem dX1_roundRow_68 : decode cX1_roundRow 68 = .ok (.d2i, 1) := by decide +kernel
theorem dX1_roundRow_69 : decode cX1_roundRow 69 = .ok (.iastore, 1) := by decide +kernel
theorem dX1_roundRow_70 : decode cX1_roundRow 70 = .ok (.aload_n 0, 1) := by decide +kernel
theorem dX1_roundRow_71 : decode cX1_roundRow 71 = .ok (.getfield 30, 3) := by decide +kernel
theorem dX1_roundRow_74 : decode cX1_roundRow 74 = .ok (.iload 5, 2) := by decide +kernel
theorem dX1_roundRow_76 : decode cX1_roundRow 76 = .ok (.dload 6, 2) := by decide +kernel
theorem dX1_roundRow_78 : decode cX1_roundRow 78 = .ok (.aload_n 0, 1) := by decide +kernel
theorem dX1_roundRow_79 : decode cX1_roundRow 79 = .ok (.getfield 27, 3) := by decide +kernel
theorem dX1_roundRow_82 : decode cX1_roundRow 82 = .ok (.bipush 6, 2) := by decide +kernel
theorem dX1_roundRow_84 : decode cX1_roundRow 84 = .ok (.iload_n 1, 1) := by decide +kernel
theorem dX1_roundRow_85 : decode cX1_roundRow 85 = .ok (.imul, 1) := by decide +kernel
theorem dX1_roundRow_86 : decode cX1_roundRow 86 = .ok (.iload 5, 2) := by decide +kernel
theorem dX1_roundRow_88 : decode cX1_roundRow 88 = .ok (.iadd, 1) := by decide +kernel
theorem dX1_roundRow_89 : decode cX1_roundRow 89 = .ok (.iaload, 1) := by decide +kernel
theorem dX1_roundRow_90 : decode cX1_roundRow 90 = .ok (.i2d, 1) := by decide +kernel
theorem dX1_roundRow_91 : decode cX1_roundRow 91 = .ok (.dsub, 1) := by decide +kernel
theorem dX1_roundRow_92 : decode cX1_roundRow 92 = .ok (.dastore, 1) := by decide +kernel
theorem dX1_roundRow_93 : decode cX1_roundRow 93 = .ok (.iload 4, 2) := by decide +kernel
theorem dX1_roundRow_95 : decode cX1_roundRow 95 = .ok (.aload_n 0, 1) := by decide +kernel
theorem dX1_roundRow_96 : decode cX1_roundRow 96 = .ok (.getfield 27, 3) := by decide +kernel
theorem dX1_roundRow_99 : decode cX1_roundRow 99 = .ok (.bipush 6, 2) := by decide +kernel
theorem dX1_roundRow_101 : decode cX1_roundRow 101 = .ok (.iload_n 1, 1) := by decide +kernel
theorem dX1_roundRow_102 : decode cX1_roundRow 102 = .ok (.imul, 1) := by decide +kernel
theorem dX1_roundRow_103 : decode cX1_roundRow 103 = .ok (.iload 5, 2) := by decide +kernel
theorem dX1_roundRow_105 : decode cX1_roundRow 105 = .ok (.iadd, 1) := by decide +kernel
theorem dX1_roundRow_106 : decode cX1_roundRow 106 = .ok (.iaload, 1) := by decide +kernel
theorem dX1_roundRow_107 : decode cX1_roundRow 107 = .ok (.iadd, 1) := by decide +kernel
theorem dX1_roundRow_108 : decode cX1_roundRow 108 = .ok (.istore 4, 2) := by decide +kernel
theorem dX1_roundRow_110 : decode cX1_roundRow 110 = .ok (.iinc 5 1, 3) := by decide +kernel
theorem dX1_roundRow_113 : decode cX1_roundRow 113 = .ok (.goto (-101), 3) := by decide +kernel
theorem dX1_roundRow_116 : decode cX1_roundRow 116 = .ok (.aload_n 0, 1) := by decide +kernel
theorem dX1_roundRow_117 : decode cX1_roundRow 117 = .ok (.iload_n 1, 1) := by decide +kernel
theorem dX1_roundRow_118 : decode cX1_roundRow 118 = .ok (.invokevirtual 119, 3) := by decide +kernel
theorem dX1_roundRow_121 : decode cX1_roundRow 121 = .ok (.istore 5, 2) := by decide +kernel
theorem dX1_roundRow_123 : decode cX1_roundRow 123 = .ok (.dload_n 2, 1) := by decide +kernel
theorem dX1_roundRow_124 : decode cX1_roundRow 124 = .ok (.dconst 0, 1) := by decide +kernel
theorem dX1_roundRow_125 : decode cX1_roundRow 125 = .ok (.dcmp .l, 1) := by decide +kernel
theorem dX1_roundRow_126 : decode cX1_roundRow 126 = .ok (.ifCond .le 59, 3) := by decide +kernel
theorem dX1_roundRow_129 : decode cX1_roundRow 129 = .ok (.iload 4, 2) := by decide +kernel
theorem dX1_roundRow_131 : decode cX1_roundRow 131 = .ok (.aload_n 0, 1) := by decide +kernel
theorem dX1_roundRow_132 : decode cX1_roundRow 132 = .ok (.getfield 13, 3) := by decide +kernel
theorem dX1_roundRow_135 : decode cX1_roundRow 135 = .ok (.iload_n 1, 1) := by decide +kernel
theorem dX1_roundRow_136 : decode cX1_roundRow 136 = .ok (.iaload, 1) := by decide +kernel
theorem dX1_roundRow_137 : decode cX1_roundRow 137 = .ok (.if_icmp .ge 48, 3) := by decide +kernel
theorem dX1_roundRow_140 : decode cX1_roundRow 140 = .ok (.iload 5, 2) := by decide +kernel
theorem dX1_roundRow_142 : decode cX1_roundRow 142 = .ok (.iconst (-1), 1) := by decide +kernel
theorem dX1_roundRow_143 : decode cX1_roundRow 143 = .ok (.if_icmp .eq 42, 3) := by decide +kernel
theorem dX1_roundRow_146 : decode cX1_roundRow 146 = .ok (.aload_n 0, 1) := by decide +kernel
theorem dX1_roundRow_147 : decode cX1_roundRow 147 = .ok (.getfield 27, 3) := by decide +kernel
theorem dX1_roundRow_150 : decode cX1_roundRow 150 = .ok (.bipush 6, 2) := by decide +kernel
theorem dX1_roundRow_152 : decode cX1_roundRow 152 = .ok (.iload_n 1, 1) := by decide +kernel
theorem dX1_roundRow_153 : decode cX1_roundRow 153 = .ok (.imul, 1) := by decide +kernel
theorem dX1_roundRow_154 : decode cX1_roundRow 154 = .ok (.iload 5, 2) := by decide +kernel
theorem dX1_roundRow_156 : decode cX1_roundRow 156 = .ok (.iadd, 1) := by decide +kernel
theorem dX1_roundRow_157 : decode cX1_roundRow 157 = .ok (.dup2, 1) := by decide +kernel
theorem dX1_roundRow_158 : decode cX1_roundRow 158 = .ok (.iaload, 1) := by decide +kernel
theorem dX1_roundRow_159 : decode cX1_roundRow 159 = .ok (.iconst 1, 1) := by decide +kernel
theorem dX1_roundRow_160 : decode cX1_roundRow 160 = .ok (.iadd, 1) := by decide +kernel
theorem dX1_roundRow_161 : decode cX1_roundRow 161 = .ok (.iastore, 1) := by decide +kernel
theorem dX1_roundRow_162 : decode cX1_roundRow 162 = .ok (.iinc 4 1, 3) := by decide +kernel
theorem dX1_roundRow_165 : decode cX1_roundRow 165 = .ok (.aload_n 0, 1) := by decide +kernel
theorem dX1_roundRow_166 : decode cX1_roundRow 166 = .ok (.getfield 30, 3) := by decide +kernel
theorem dX1_roundRow_169 : decode cX1_roundRow 169 = .ok (.iload 5, 2) := by decide +kernel
theorem dX1_roundRow_171 : decode cX1_roundRow 171 = .ok (.ldc2_w 122, 3) := by decide +kernel
theorem dX1_roundRow_174 : decode cX1_roundRow 174 = .ok (.dastore, 1) := by decide +kernel
theorem dX1_roundRow_175 : decode cX1_roundRow 175 = .ok (.aload_n 0, 1) := by decide +kernel
theorem dX1_roundRow_176 : decode cX1_roundRow 176 = .ok (.iload_n 1, 1) := by decide +kernel
theorem dX1_roundRow_177 : decode cX1_roundRow 177 = .ok (.invokevirtual 119, 3) := by decide +kernel
theorem dX1_roundRow_180 : decode cX1_roundRow 180 = .ok (.istore 5, 2) := by decide +kernel
theorem dX1_roundRow_182 : decode cX1_roundRow 182 = .ok (.goto (-59), 3) := by decide +kernel
theorem dX1_roundRow_185 : decode cX1_roundRow 185 = .ok (.return_, 1) := by decide +kernel
set_option maxRecDepth 20000 in
theorem ggX1_layWhole_X1_roundRow : GoodIn wsX1_layWhole wsX1_roundRow := goodIn_ca (goodIn_r _ [6, 1, 7, 8, 9, 10, 11, 12, 13, 14, 5, 15, 16, 17, 18, 19, 20, 21, 22, 23, 24, 25, 26, 27, 28, 29, 30, 31, 32, 33] (by decide +kernel) (by decide +kernel)) (goodIn_sub (fun _ h => List.mem_cons_of_mem _ (List.mem_append_right _ h)) (by decide +kernel))
set_option maxRecDepth 20000 in
theorem gX1_layWhole_X1_roundRow : GoodIn wsX1_layWhole (wsV RX1 124 RX1 yX1_roundRow wsX1_roundRow) := goodIn_app (goodIn_of _ (by decide +kernel)) ggX1_layWhole_X1_roundRow
theorem dX1_layWhole_0 : decode cX1_layWhole 0 = .ok (.iconst 0, 1) := by decide +kernel
theorem dX1_layWhole_1 : decode cX1_layWhole 1 = .ok (.istore_n 1, 1) := by decide +kernel
theorem dX1_layWhole_2 : decode cX1_layWhole 2 = .ok (.iload_n 1, 1) := by decide +kernel
theorem dX1_layWhole_3 : decode cX1_layWhole 3 = .ok (.aload_n 0, 1) := by decide +kernel
theorem dX1_layWhole_4 : decode cX1_layWhole 4 = .ok (.getfield 7, 3) := by decide +kernel
theorem dX1_layWhole_7 : decode cX1_layWhole 7 = .ok (.if_icmp .ge 14, 3) := by decide +kernel
theorem dX1_layWhole_10 : decode cX1_layWhole 10 = .ok (.aload_n 0, 1) := by decide +kernel
theorem dX1_layWhole_11 : decode cX1_layWhole 11 = .ok (.iload_n 1, 1) := by decide +kernel
theorem dX1_layWhole_12 : decode cX1_layWhole 12 = .ok (.invokevirtual 124, 3) := by decide +kernel
theorem dX1_layWhole_15 : decode cX1_layWhole 15 = .ok (.iinc 1 1, 3) := by decide +kernel
theorem dX1_layWhole_18 : decode cX1_layWhole 18 = .ok (.goto (-16), 3) := by decide +kernel
theorem dX1_layWhole_21 : decode cX1_layWhole 21 = .ok (.return_, 1) := by decide +kernel
set_option maxRecDepth 20000 in
theorem ggX1_rounded_X1_areArms : GoodIn wsX1_rounded wsX1_areArms := goodIn_r _ [7, 8, 9, 10, 6, 11, 12, 13, 14, 15, 33, 34, 35, 36, 37, 38, 39, 40, 41, 42, 43, 44, 45] (by decide +kernel) (by decide +kernel)
set_option maxRecDepth 20000 in
theorem gX1_rounded_X1_areArms : GoodIn wsX1_rounded (wsV RX1 112 RX1 yX1_areArms wsX1_areArms) := goodIn_app (goodIn_of _ (by decide +kernel)) ggX1_rounded_X1_areArms
set_option maxRecDepth 20000 in
theorem ggX1_rounded_X1_roundRow : GoodIn wsX1_rounded wsX1_roundRow := goodIn_ca (goodIn_r _ [19, 12, 20, 21, 2, 22, 23, 24, 25, 26, 6, 27, 28, 29, 30, 31, 32, 33, 34, 35, 36, 37, 38, 39, 40, 41, 42, 43, 44, 45] (by decide +kernel) (by decide +kernel)) (goodIn_sub (fun _ h => List.mem_cons_of_mem _ (List.mem_append_right _ h)) (by decide +kernel))
set_option maxRecDepth 20000 in
theorem gX1_rounded_X1_roundRow : GoodIn wsX1_rounded (wsV RX1 124 RX1 yX1_roundRow wsX1_roundRow) := goodIn_app (goodIn_of _ (by decide +kernel)) ggX1_rounded_X1_roundRow
theorem dX1_rounded_0 : decode cX1_rounded 0 = .ok (.aload_n 0, 1) := by decide +kernel
theorem dX1_rounded_1 : decode cX1_rounded 1 = .ok (.aload_n 0, 1) := by decide +kernel
theorem dX1_rounded_2 : decode cX1_rounded 2 = .ok (.iload_n 1, 1) := by decide +kernel
theorem dX1_rounded_3 : decode cX1_rounded 3 = .ok (.iload_n 2, 1) := by decide +kernel
theorem dX1_rounded_4 : decode cX1_rounded 4 = .ok (.invokevirtual 112, 3) := by decide +kernel
theorem dX1_rounded_7 : decode cX1_rounded 7 = .ok (.ifCond .eq 7, 3) := by decide +kernel
theorem dX1_rounded_10 : decode cX1_rounded 10 = .ok (.iconst 0, 1) := by decide +kernel
theorem dX1_rounded_11 : decode cX1_rounded 11 = .ok (.goto 4, 3) := by decide +kernel
theorem dX1_rounded_14 : decode cX1_rounded 14 = .ok (.iconst 1, 1) := by decide +kernel
theorem dX1_rounded_15 : decode cX1_rounded 15 = .ok (.putfield 45, 3) := by decide +kernel
theorem dX1_rounded_18 : decode cX1_rounded 18 = .ok (.aload_n 0, 1) := by decide +kernel
theorem dX1_rounded_19 : decode cX1_rounded 19 = .ok (.getfield 45, 3) := by decide +kernel
theorem dX1_rounded_22 : decode cX1_rounded 22 = .ok (.ifCond .le 5, 3) := by decide +kernel
theorem dX1_rounded_25 : decode cX1_rounded 25 = .ok (.iconst 0, 1) := by decide +kernel
theorem dX1_rounded_26 : decode cX1_rounded 26 = .ok (.ireturn, 1) := by decide +kernel
theorem dX1_rounded_27 : decode cX1_rounded 27 = .ok (.aload_n 0, 1) := by decide +kernel
theorem dX1_rounded_28 : decode cX1_rounded 28 = .ok (.iload_n 1, 1) := by decide +kernel
theorem dX1_rounded_29 : decode cX1_rounded 29 = .ok (.invokevirtual 124, 3) := by decide +kernel
theorem dX1_rounded_32 : decode cX1_rounded 32 = .ok (.aload_n 0, 1) := by decide +kernel
theorem dX1_rounded_33 : decode cX1_rounded 33 = .ok (.getfield 27, 3) := by decide +kernel
theorem dX1_rounded_36 : decode cX1_rounded 36 = .ok (.bipush 6, 2) := by decide +kernel
theorem dX1_rounded_38 : decode cX1_rounded 38 = .ok (.iload_n 1, 1) := by decide +kernel
theorem dX1_rounded_39 : decode cX1_rounded 39 = .ok (.imul, 1) := by decide +kernel
theorem dX1_rounded_40 : decode cX1_rounded 40 = .ok (.iload_n 2, 1) := by decide +kernel
theorem dX1_rounded_41 : decode cX1_rounded 41 = .ok (.iadd, 1) := by decide +kernel
theorem dX1_rounded_42 : decode cX1_rounded 42 = .ok (.iaload, 1) := by decide +kernel
theorem dX1_rounded_43 : decode cX1_rounded 43 = .ok (.ireturn, 1) := by decide +kernel
set_option maxRecDepth 20000 in
theorem ggX1_wholeMisfit_X1_layWhole : GoodIn wsX1_wholeMisfit wsX1_layWhole := goodIn_ca (goodIn_r _ [8, 1, 9, 10, 11, 7, 12, 13, 14, 3, 15, 16, 17, 18, 19, 20, 21, 22, 23, 24, 25, 26, 27, 28, 29, 30, 31, 32, 33, 34, 35, 36, 37, 38] (by decide +kernel) (by decide +kernel)) (goodIn_sub (fun _ h => List.mem_cons_of_mem _ (List.mem_append_right _ h)) (by decide +kernel))
set_option maxRecDepth 20000 in
theorem gX1_wholeMisfit_X1_layWhole : GoodIn wsX1_wholeMisfit (wsV RX1 127 RX1 yX1_layWhole wsX1_layWhole) := goodIn_app (goodIn_of _ (by decide +kernel)) ggX1_wholeMisfit_X1_layWhole
theorem dX1_wholeMisfit_0 : decode cX1_wholeMisfit 0 = .ok (.aload_n 0, 1) := by decide +kernel
theorem dX1_wholeMisfit_1 : decode cX1_wholeMisfit 1 = .ok (.invokevirtual 127, 3) := by decide +kernel
theorem dX1_wholeMisfit_4 : decode cX1_wholeMisfit 4 = .ok (.iconst 0, 1) := by decide +kernel
theorem dX1_wholeMisfit_5 : decode cX1_wholeMisfit 5 = .ok (.istore_n 1, 1) := by decide +kernel
theorem dX1_wholeMisfit_6 : decode cX1_wholeMisfit 6 = .ok (.iconst 0, 1) := by decide +kernel
theorem dX1_wholeMisfit_7 : decode cX1_wholeMisfit 7 = .ok (.istore_n 2, 1) := by decide +kernel
theorem dX1_wholeMisfit_8 : decode cX1_wholeMisfit 8 = .ok (.iload_n 2, 1) := by decide +kernel
theorem dX1_wholeMisfit_9 : decode cX1_wholeMisfit 9 = .ok (.aload_n 0, 1) := by decide +kernel
theorem dX1_wholeMisfit_10 : decode cX1_wholeMisfit 10 = .ok (.getfield 7, 3) := by decide +kernel
theorem dX1_wholeMisfit_13 : decode cX1_wholeMisfit 13 = .ok (.if_icmp .ge 63, 3) := by decide +kernel
theorem dX1_wholeMisfit_16 : decode cX1_wholeMisfit 16 = .ok (.aload_n 0, 1) := by decide +kernel
theorem dX1_wholeMisfit_17 : decode cX1_wholeMisfit 17 = .ok (.getfield 17, 3) := by decide +kernel
theorem dX1_wholeMisfit_20 : decode cX1_wholeMisfit 20 = .ok (.iload_n 2, 1) := by decide +kernel
theorem dX1_wholeMisfit_21 : decode cX1_wholeMisfit 21 = .ok (.iaload, 1) := by decide +kernel
theorem dX1_wholeMisfit_22 : decode cX1_wholeMisfit 22 = .ok (.ineg, 1) := by decide +kernel
theorem dX1_wholeMisfit_23 : decode cX1_wholeMisfit 23 = .ok (.istore_n 3, 1) := by decide +kernel
theorem dX1_wholeMisfit_24 : decode cX1_wholeMisfit 24 = .ok (.iconst 0, 1) := by decide +kernel
theorem dX1_wholeMisfit_25 : decode cX1_wholeMisfit 25 = .ok (.istore 4, 2) := by decide +kernel
theorem dX1_wholeMisfit_27 : decode cX1_wholeMisfit 27 = .ok (.iload 4, 2) := by decide +kernel
theorem dX1_wholeMisfit_29 : decode cX1_wholeMisfit 29 = .ok (.aload_n 0, 1) := by decide +kernel
theorem dX1_wholeMisfit_30 : decode cX1_wholeMisfit 30 = .ok (.getfield 7, 3) := by decide +kernel
theorem dX1_wholeMisfit_33 : decode cX1_wholeMisfit 33 = .ok (.if_icmp .ge 24, 3) := by decide +kernel
theorem dX1_wholeMisfit_36 : decode cX1_wholeMisfit 36 = .ok (.iload_n 3, 1) := by decide +kernel
theorem dX1_wholeMisfit_37 : decode cX1_wholeMisfit 37 = .ok (.aload_n 0, 1) := by decide +kernel
theorem dX1_wholeMisfit_38 : decode cX1_wholeMisfit 38 = .ok (.getfield 27, 3) := by decide +kernel
theorem dX1_wholeMisfit_41 : decode cX1_wholeMisfit 41 = .ok (.bipush 6, 2) := by decide +kernel
theorem dX1_wholeMisfit_43 : decode cX1_wholeMisfit 43 = .ok (.iload 4, 2) := by decide +kernel
theorem dX1_wholeMisfit_45 : decode cX1_wholeMisfit 45 = .ok (.imul, 1) := by decide +kernel
theorem dX1_wholeMisfit_46 : decode cX1_wholeMisfit 46 = .ok (.iload_n 2, 1) := by decide +kernel
theorem dX1_wholeMisfit_47 : decode cX1_wholeMisfit 47 = .ok (.iadd, 1) := by decide +kernel
theorem dX1_wholeMisfit_48 : decode cX1_wholeMisfit 48 = .ok (.iaload, 1) := by decide +kernel
theorem dX1_wholeMisfit_49 : decode cX1_wholeMisfit 49 = .ok (.iadd, 1) := by decide +kernel
theorem dX1_wholeMisfit_50 : decode cX1_wholeMisfit 50 = .ok (.istore_n 3, 1) := by decide +kernel
theorem dX1_wholeMisfit_51 : decode cX1_wholeMisfit 51 = .ok (.iinc 4 1, 3) := by decide +kernel
theorem dX1_wholeMisfit_54 : decode cX1_wholeMisfit 54 = .ok (.goto (-27), 3) := by decide +kernel
theorem dX1_wholeMisfit_57 : decode cX1_wholeMisfit 57 = .ok (.iload_n 1, 1) := by decide +kernel
theorem dX1_wholeMisfit_58 : decode cX1_wholeMisfit 58 = .ok (.iload_n 3, 1) := by decide +kernel
theorem dX1_wholeMisfit_59 : decode cX1_wholeMisfit 59 = .ok (.ifCond .ge 8, 3) := by decide +kernel
theorem dX1_wholeMisfit_62 : decode cX1_wholeMisfit 62 = .ok (.iload_n 3, 1) := by decide +kernel
theorem dX1_wholeMisfit_63 : decode cX1_wholeMisfit 63 = .ok (.ineg, 1) := by decide +kernel
theorem dX1_wholeMisfit_64 : decode cX1_wholeMisfit 64 = .ok (.goto 4, 3) := by decide +kernel
theorem dX1_wholeMisfit_67 : decode cX1_wholeMisfit 67 = .ok (.iload_n 3, 1) := by decide +kernel
theorem dX1_wholeMisfit_68 : decode cX1_wholeMisfit 68 = .ok (.iadd, 1) := by decide +kernel
theorem dX1_wholeMisfit_69 : decode cX1_wholeMisfit 69 = .ok (.istore_n 1, 1) := by decide +kernel
theorem dX1_wholeMisfit_70 : decode cX1_wholeMisfit 70 = .ok (.iinc 2 1, 3) := by decide +kernel
theorem dX1_wholeMisfit_73 : decode cX1_wholeMisfit 73 = .ok (.goto (-65), 3) := by decide +kernel
theorem dX1_wholeMisfit_76 : decode cX1_wholeMisfit 76 = .ok (.iload_n 1, 1) := by decide +kernel
theorem dX1_wholeMisfit_77 : decode cX1_wholeMisfit 77 = .ok (.ireturn, 1) := by decide +kernel
set_option maxRecDepth 20000 in
theorem ggX1_roundedMisfit_X1_wholeMisfit : GoodIn wsX1_roundedMisfit wsX1_wholeMisfit := goodIn_ca (goodIn_r _ [6, 7, 8, 9, 10, 11, 12, 5, 13, 14, 15, 16, 17, 18, 19, 20, 21, 22, 23, 24, 25, 26, 27, 28, 29, 30, 31, 32, 33, 34, 35, 36, 37, 38, 39, 40, 41, 42, 43] (by decide +kernel) (by decide +kernel)) (goodIn_sub (fun _ h => List.mem_cons_of_mem _ (List.mem_append_right _ h)) (by decide +kernel))
set_option maxRecDepth 20000 in
theorem gX1_roundedMisfit_X1_wholeMisfit : GoodIn wsX1_roundedMisfit (wsV RX1 130 RX1 yX1_wholeMisfit wsX1_wholeMisfit) := goodIn_app (goodIn_of _ (by decide +kernel)) ggX1_roundedMisfit_X1_wholeMisfit
theorem dX1_roundedMisfit_0 : decode cX1_roundedMisfit 0 = .ok (.aload_n 0, 1) := by decide +kernel
theorem dX1_roundedMisfit_1 : decode cX1_roundedMisfit 1 = .ok (.iconst 0, 1) := by decide +kernel
theorem dX1_roundedMisfit_2 : decode cX1_roundedMisfit 2 = .ok (.putfield 45, 3) := by decide +kernel
theorem dX1_roundedMisfit_5 : decode cX1_roundedMisfit 5 = .ok (.aload_n 0, 1) := by decide +kernel
theorem dX1_roundedMisfit_6 : decode cX1_roundedMisfit 6 = .ok (.invokevirtual 130, 3) := by decide +kernel
theorem dX1_roundedMisfit_9 : decode cX1_roundedMisfit 9 = .ok (.ireturn, 1) := by decide +kernel
theorem dX1_leftBy_0 : decode cX1_leftBy 0 = .ok (.iconst 0, 1) := by decide +kernel
theorem dX1_leftBy_1 : decode cX1_leftBy 1 = .ok (.istore_n 3, 1) := by decide +kernel
theorem dX1_leftBy_2 : decode cX1_leftBy 2 = .ok (.iconst 0, 1) := by decide +kernel
theorem dX1_leftBy_3 : decode cX1_leftBy 3 = .ok (.istore 4, 2) := by decide +kernel
theorem dX1_leftBy_5 : decode cX1_leftBy 5 = .ok (.iconst 0, 1) := by decide +kernel
theorem dX1_leftBy_6 : decode cX1_leftBy 6 = .ok (.istore 5, 2) := by decide +kernel
theorem dX1_leftBy_8 : decode cX1_leftBy 8 = .ok (.iload 5, 2) := by decide +kernel
theorem dX1_leftBy_10 : decode cX1_leftBy 10 = .ok (.aload_n 0, 1) := by decide +kernel
theorem dX1_leftBy_11 : decode cX1_leftBy 11 = .ok (.getfield 7, 3) := by decide +kernel
theorem dX1_leftBy_14 : decode cX1_leftBy 14 = .ok (.if_icmp .ge 110, 3) := by decide +kernel
theorem dX1_leftBy_17 : decode cX1_leftBy 17 = .ok (.iconst 0, 1) := by decide +kernel
theorem dX1_leftBy_18 : decode cX1_leftBy 18 = .ok (.istore 6, 2) := by decide +kernel
theorem dX1_leftBy_20 : decode cX1_leftBy 20 = .ok (.iconst 0, 1) := by decide +kernel
theorem dX1_leftBy_21 : decode cX1_leftBy 21 = .ok (.istore 7, 2) := by decide +kernel
theorem dX1_leftBy_23 : decode cX1_leftBy 23 = .ok (.iload 7, 2) := by decide +kernel
theorem dX1_leftBy_25 : decode cX1_leftBy 25 = .ok (.aload_n 0, 1) := by decide +kernel
theorem dX1_leftBy_26 : decode cX1_leftBy 26 = .ok (.getfield 7, 3) := by decide +kernel
theorem dX1_leftBy_29 : decode cX1_leftBy 29 = .ok (.if_icmp .ge 47, 3) := by decide +kernel
theorem dX1_leftBy_32 : decode cX1_leftBy 32 = .ok (.iload 6, 2) := by decide +kernel
theorem dX1_leftBy_34 : decode cX1_leftBy 34 = .ok (.ifCond .ne 29, 3) := by decide +kernel
theorem dX1_leftBy_37 : decode cX1_leftBy 37 = .ok (.iload_n 1, 1) := by decide +kernel
theorem dX1_leftBy_38 : decode cX1_leftBy 38 = .ok (.iload 7, 2) := by decide +kernel
theorem dX1_leftBy_40 : decode cX1_leftBy 40 = .ok (.ishr, 1) := by decide +kernel
theorem dX1_leftBy_41 : decode cX1_leftBy 41 = .ok (.iconst 1, 1) := by decide +kernel
theorem dX1_leftBy_42 : decode cX1_leftBy 42 = .ok (.iand, 1) := by decide +kernel
theorem dX1_leftBy_43 : decode cX1_leftBy 43 = .ok (.iconst 1, 1) := by decide +kernel
theorem dX1_leftBy_44 : decode cX1_leftBy 44 = .ok (.if_icmp .ne 23, 3) := by decide +kernel
theorem dX1_leftBy_47 : decode cX1_leftBy 47 = .ok (.aload_n 0, 1) := by decide +kernel
theorem dX1_leftBy_48 : decode cX1_leftBy 48 = .ok (.getfield 20, 3) := by decide +kernel
theorem dX1_leftBy_51 : decode cX1_leftBy 51 = .ok (.bipush 6, 2) := by decide +kernel
theorem dX1_leftBy_53 : decode cX1_leftBy 53 = .ok (.iload 7, 2) := by decide +kernel
theorem dX1_leftBy_55 : decode cX1_leftBy 55 = .ok (.imul, 1) := by decide +kernel
theorem dX1_leftBy_56 : decode cX1_leftBy 56 = .ok (.iload 5, 2) := by decide +kernel
theorem dX1_leftBy_58 : decode cX1_leftBy 58 = .ok (.iadd, 1) := by decide +kernel
theorem dX1_leftBy_59 : decode cX1_leftBy 59 = .ok (.iaload, 1) := by decide +kernel
theorem dX1_leftBy_60 : decode cX1_leftBy 60 = .ok (.ifCond .le 7, 3) := by decide +kernel
theorem dX1_leftBy_63 : decode cX1_leftBy 63 = .ok (.iconst 1, 1) := by decide +kernel
theorem dX1_leftBy_64 : decode cX1_leftBy 64 = .ok (.goto 4, 3) := by decide +kernel
theorem dX1_leftBy_67 : decode cX1_leftBy 67 = .ok (.iconst 0, 1) := by decide +kernel
theorem dX1_leftBy_68 : decode cX1_leftBy 68 = .ok (.istore 6, 2) := by decide +kernel
theorem dX1_leftBy_70 : decode cX1_leftBy 70 = .ok (.iinc 7 1, 3) := by decide +kernel
theorem dX1_leftBy_73 : decode cX1_leftBy 73 = .ok (.goto (-50), 3) := by decide +kernel
theorem dX1_leftBy_76 : decode cX1_leftBy 76 = .ok (.iload 4, 2) := by decide +kernel
theorem dX1_leftBy_78 : decode cX1_leftBy 78 = .ok (.iload 6, 2) := by decide +kernel
theorem dX1_leftBy_80 : decode cX1_leftBy 80 = .ok (.ifCond .eq 13, 3) := by decide +kernel
theorem dX1_leftBy_83 : decode cX1_leftBy 83 = .ok (.aload_n 0, 1) := by decide +kernel
theorem dX1_leftBy_84 : decode cX1_leftBy 84 = .ok (.getfield 39, 3) := by decide +kernel
theorem dX1_leftBy_87 : decode cX1_leftBy 87 = .ok (.iload 5, 2) := by decide +kernel
theorem dX1_leftBy_89 : decode cX1_leftBy 89 = .ok (.iaload, 1) := by decide +kernel
theorem dX1_leftBy_90 : decode cX1_leftBy 90 = .ok (.goto 4, 3) := by decide +kernel
theorem dX1_leftBy_93 : decode cX1_leftBy 93 = .ok (.iconst 0, 1) := by decide +kernel
theorem dX1_leftBy_94 : decode cX1_leftBy 94 = .ok (.iadd, 1) := by decide +kernel
theorem dX1_leftBy_95 : decode cX1_leftBy 95 = .ok (.istore 4, 2) := by decide +kernel
theorem dX1_leftBy_97 : decode cX1_leftBy 97 = .ok (.iload_n 3, 1) := by decide +kernel
theorem dX1_leftBy_98 : decode cX1_leftBy 98 = .ok (.ifCond .ne 14, 3) := by decide +kernel
theorem dX1_leftBy_101 : decode cX1_leftBy 101 = .ok (.iload 6, 2) := by decide +kernel
theorem dX1_leftBy_103 : decode cX1_leftBy 103 = .ok (.ifCond .eq 13, 3) := by decide +kernel
theorem dX1_leftBy_106 : decode cX1_leftBy 106 = .ok (.iload 5, 2) := by decide +kernel
theorem dX1_leftBy_108 : decode cX1_leftBy 108 = .ok (.iload_n 2, 1) := by decide +kernel
theorem dX1_leftBy_109 : decode cX1_leftBy 109 = .ok (.if_icmp .ne 7, 3) := by decide +kernel
theorem dX1_leftBy_112 : decode cX1_leftBy 112 = .ok (.iconst 1, 1) := by decide +kernel
theorem dX1_leftBy_113 : decode cX1_leftBy 113 = .ok (.goto 4, 3) := by decide +kernel
theorem dX1_leftBy_116 : decode cX1_leftBy 116 = .ok (.iconst 0, 1) := by decide +kernel
theorem dX1_leftBy_117 : decode cX1_leftBy 117 = .ok (.istore_n 3, 1) := by decide +kernel
theorem dX1_leftBy_118 : decode cX1_leftBy 118 = .ok (.iinc 5 1, 3) := by decide +kernel
theorem dX1_leftBy_121 : decode cX1_leftBy 121 = .ok (.goto (-113), 3) := by decide +kernel
theorem dX1_leftBy_124 : decode cX1_leftBy 124 = .ok (.iconst 0, 1) := by decide +kernel
theorem dX1_leftBy_125 : decode cX1_leftBy 125 = .ok (.istore 5, 2) := by decide +kernel
theorem dX1_leftBy_127 : decode cX1_leftBy 127 = .ok (.iload 5, 2) := by decide +kernel
theorem dX1_leftBy_129 : decode cX1_leftBy 129 = .ok (.aload_n 0, 1) := by decide +kernel
theorem dX1_leftBy_130 : decode cX1_leftBy 130 = .ok (.getfield 7, 3) := by decide +kernel
theorem dX1_leftBy_133 : decode cX1_leftBy 133 = .ok (.if_icmp .ge 35, 3) := by decide +kernel
theorem dX1_leftBy_136 : decode cX1_leftBy 136 = .ok (.iload 4, 2) := by decide +kernel
theorem dX1_leftBy_138 : decode cX1_leftBy 138 = .ok (.iload_n 1, 1) := by decide +kernel
theorem dX1_leftBy_139 : decode cX1_leftBy 139 = .ok (.iload 5, 2) := by decide +kernel
theorem dX1_leftBy_141 : decode cX1_leftBy 141 = .ok (.ishr, 1) := by decide +kernel
theorem dX1_leftBy_142 : decode cX1_leftBy 142 = .ok (.iconst 1, 1) := by decide +kernel
theorem dX1_leftBy_143 : decode cX1_leftBy 143 = .ok (.iand, 1) := by decide +kernel
theorem dX1_leftBy_144 : decode cX1_leftBy 144 = .ok (.iconst 1, 1) := by decide +kernel
theorem dX1_leftBy_145 : decode cX1_leftBy 145 = .ok (.if_icmp .ne 13, 3) := by decide +kernel
theorem dX1_leftBy_148 : decode cX1_leftBy 148 = .ok (.aload_n 0, 1) := by decide +kernel
theorem dX1_leftBy_149 : decode cX1_leftBy 149 = .ok (.getfield 36, 3) := by decide +kernel
theorem dX1_leftBy_152 : decode cX1_leftBy 152 = .ok (.iload 5, 2) := by decide +kernel
theorem dX1_leftBy_154 : decode cX1_leftBy 154 = .ok (.iaload, 1) := by decide +kernel
theorem dX1_leftBy_155 : decode cX1_leftBy 155 = .ok (.goto 4, 3) := by decide +kernel
theorem dX1_leftBy_158 : decode cX1_leftBy 158 = .ok (.iconst 0, 1) := by decide +kernel
theorem dX1_leftBy_159 : decode cX1_leftBy 159 = .ok (.isub, 1) := by decide +kernel
theorem dX1_leftBy_160 : decode cX1_leftBy 160 = .ok (.istore 4, 2) := by decide +kernel
theorem dX1_leftBy_162 : decode cX1_leftBy 162 = .ok (.iinc 5 1, 3) := by decide +kernel
theorem dX1_leftBy_165 : decode cX1_leftBy 165 = .ok (.goto (-38), 3) := by decide +kernel
theorem dX1_leftBy_168 : decode cX1_leftBy 168 = .ok (.iload_n 3, 1) := by decide +kernel
theorem dX1_leftBy_169 : decode cX1_leftBy 169 = .ok (.ifCond .eq 8, 3) := by decide +kernel
theorem dX1_leftBy_172 : decode cX1_leftBy 172 = .ok (.iload 4, 2) := by decide +kernel
theorem dX1_leftBy_174 : decode cX1_leftBy 174 = .ok (.goto 6, 3) := by decide +kernel
theorem dX1_leftBy_177 : decode cX1_leftBy 177 = .ok (.sipush 9999, 3) := by decide +kernel
theorem dX1_leftBy_180 : decode cX1_leftBy 180 = .ok (.ireturn, 1) := by decide +kernel
set_option maxRecDepth 20000 in
theorem ggX1_layCell_X1_leftBy : GoodIn wsX1_layCell wsX1_leftBy := goodIn_ca (goodIn_r _ [10, 3, 4, 2, 1, 11, 12, 13, 14, 15, 16, 17, 18, 19, 20, 21, 22, 23] (by decide +kernel) (by decide +kernel)) (goodIn_sub (fun _ h => List.mem_cons_of_mem _ (List.mem_append_right _ h)) (by decide +kernel))
set_option maxRecDepth 20000 in
theorem gX1_layCell_X1_leftBy : GoodIn wsX1_layCell (wsV RX1 133 RX1 yX1_leftBy wsX1_leftBy) := goodIn_app (goodIn_of _ (by decide +kernel)) ggX1_layCell_X1_leftBy
theorem dX1_layCell_0 : decode cX1_layCell 0 = .ok (.aload_n 0, 1) := by decide +kernel
theorem dX1_layCell_1 : decode cX1_layCell 1 = .ok (.getfield 36, 3) := by decide +kernel
theorem dX1_layCell_4 : decode cX1_layCell 4 = .ok (.iload_n 1, 1) := by decide +kernel
theorem dX1_layCell_5 : decode cX1_layCell 5 = .ok (.iaload, 1) := by decide +kernel
theorem dX1_layCell_6 : decode cX1_layCell 6 = .ok (.aload_n 0, 1) := by decide +kernel
theorem dX1_layCell_7 : decode cX1_layCell 7 = .ok (.getfield 39, 3) := by decide +kernel
theorem dX1_layCell_10 : decode cX1_layCell 10 = .ok (.iload_n 2, 1) := by decide +kernel
theorem dX1_layCell_11 : decode cX1_layCell 11 = .ok (.iaload, 1) := by decide +kernel
theorem dX1_layCell_12 : decode cX1_layCell 12 = .ok (.if_icmp .ge 12, 3) := by decide +kernel
theorem dX1_layCell_15 : decode cX1_layCell 15 = .ok (.aload_n 0, 1) := by decide +kernel
theorem dX1_layCell_16 : decode cX1_layCell 16 = .ok (.getfield 36, 3) := by decide +kernel
theorem dX1_layCell_19 : decode cX1_layCell 19 = .ok (.iload_n 1, 1) := by decide +kernel
theorem dX1_layCell_20 : decode cX1_layCell 20 = .ok (.iaload, 1) := by decide +kernel
theorem dX1_layCell_21 : decode cX1_layCell 21 = .ok (.goto 9, 3) := by decide +kernel
theorem dX1_layCell_24 : decode cX1_layCell 24 = .ok (.aload_n 0, 1) := by decide +kernel
theorem dX1_layCell_25 : decode cX1_layCell 25 = .ok (.getfield 39, 3) := by decide +kernel
theorem dX1_layCell_28 : decode cX1_layCell 28 = .ok (.iload_n 2, 1) := by decide +kernel
theorem dX1_layCell_29 : decode cX1_layCell 29 = .ok (.iaload, 1) := by decide +kernel
theorem dX1_layCell_30 : decode cX1_layCell 30 = .ok (.istore_n 3, 1) := by decide +kernel
theorem dX1_layCell_31 : decode cX1_layCell 31 = .ok (.iconst 0, 1) := by decide +kernel
theorem dX1_layCell_32 : decode cX1_layCell 32 = .ok (.istore 4, 2) := by decide +kernel
theorem dX1_layCell_34 : decode cX1_layCell 34 = .ok (.iload 4, 2) := by decide +kernel
theorem dX1_layCell_36 : decode cX1_layCell 36 = .ok (.iconst 1, 1) := by decide +kernel
theorem dX1_layCell_37 : decode cX1_layCell 37 = .ok (.aload_n 0, 1) := by decide +kernel
theorem dX1_layCell_38 : decode cX1_layCell 38 = .ok (.getfield 7, 3) := by decide +kernel
theorem dX1_layCell_41 : decode cX1_layCell 41 = .ok (.ishl, 1) := by decide +kernel
theorem dX1_layCell_42 : decode cX1_layCell 42 = .ok (.if_icmp .ge 46, 3) := by decide +kernel
theorem dX1_layCell_45 : decode cX1_layCell 45 = .ok (.iload 4, 2) := by decide +kernel
theorem dX1_layCell_47 : decode cX1_layCell 47 = .ok (.iload_n 1, 1) := by decide +kernel
theorem dX1_layCell_48 : decode cX1_layCell 48 = .ok (.iconst 1, 1) := by decide +kernel
theorem dX1_layCell_49 : decode cX1_layCell 49 = .ok (.iadd, 1) := by decide +kernel
theorem dX1_layCell_50 : decode cX1_layCell 50 = .ok (.ishr, 1) := by decide +kernel
theorem dX1_layCell_51 : decode cX1_layCell 51 = .ok (.iload_n 1, 1) := by decide +kernel
theorem dX1_layCell_52 : decode cX1_layCell 52 = .ok (.iconst 1, 1) := by decide +kernel
theorem dX1_layCell_53 : decode cX1_layCell 53 = .ok (.iadd, 1) := by decide +kernel
theorem dX1_layCell_54 : decode cX1_layCell 54 = .ok (.ishl, 1) := by decide +kernel
theorem dX1_layCell_55 : decode cX1_layCell 55 = .ok (.iload 4, 2) := by decide +kernel
theorem dX1_layCell_57 : decode cX1_layCell 57 = .ok (.if_icmp .ne 25, 3) := by decide +kernel
theorem dX1_layCell_60 : decode cX1_layCell 60 = .ok (.aload_n 0, 1) := by decide +kernel
theorem dX1_layCell_61 : decode cX1_layCell 61 = .ok (.iload 4, 2) := by decide +kernel
theorem dX1_layCell_63 : decode cX1_layCell 63 = .ok (.iload_n 2, 1) := by decide +kernel
theorem dX1_layCell_64 : decode cX1_layCell 64 = .ok (.invokevirtual 133, 3) := by decide +kernel
theorem dX1_layCell_67 : decode cX1_layCell 67 = .ok (.istore 5, 2) := by decide +kernel
theorem dX1_layCell_69 : decode cX1_layCell 69 = .ok (.iload 5, 2) := by decide +kernel
theorem dX1_layCell_71 : decode cX1_layCell 71 = .ok (.iload_n 3, 1) := by decide +kernel
theorem dX1_layCell_72 : decode cX1_layCell 72 = .ok (.if_icmp .ge 8, 3) := by decide +kernel
theorem dX1_layCell_75 : decode cX1_layCell 75 = .ok (.iload 5, 2) := by decide +kernel
theorem dX1_layCell_77 : decode cX1_layCell 77 = .ok (.goto 4, 3) := by decide +kernel
theorem dX1_layCell_80 : decode cX1_layCell 80 = .ok (.iload_n 3, 1) := by decide +kernel
theorem dX1_layCell_81 : decode cX1_layCell 81 = .ok (.istore_n 3, 1) := by decide +kernel
theorem dX1_layCell_82 : decode cX1_layCell 82 = .ok (.iinc 4 1, 3) := by decide +kernel
theorem dX1_layCell_85 : decode cX1_layCell 85 = .ok (.goto (-51), 3) := by decide +kernel
theorem dX1_layCell_88 : decode cX1_layCell 88 = .ok (.aload_n 0, 1) := by decide +kernel
theorem dX1_layCell_89 : decode cX1_layCell 89 = .ok (.getfield 20, 3) := by decide +kernel
theorem dX1_layCell_92 : decode cX1_layCell 92 = .ok (.bipush 6, 2) := by decide +kernel
theorem dX1_layCell_94 : decode cX1_layCell 94 = .ok (.iload_n 1, 1) := by decide +kernel
theorem dX1_layCell_95 : decode cX1_layCell 95 = .ok (.imul, 1) := by decide +kernel
theorem dX1_layCell_96 : decode cX1_layCell 96 = .ok (.iload_n 2, 1) := by decide +kernel
theorem dX1_layCell_97 : decode cX1_layCell 97 = .ok (.iadd, 1) := by decide +kernel
theorem dX1_layCell_98 : decode cX1_layCell 98 = .ok (.iaload, 1) := by decide +kernel
theorem dX1_layCell_99 : decode cX1_layCell 99 = .ok (.ifCond .le 7, 3) := by decide +kernel
theorem dX1_layCell_102 : decode cX1_layCell 102 = .ok (.iload_n 3, 1) := by decide +kernel
theorem dX1_layCell_103 : decode cX1_layCell 103 = .ok (.goto 4, 3) := by decide +kernel
theorem dX1_layCell_106 : decode cX1_layCell 106 = .ok (.iconst 0, 1) := by decide +kernel
theorem dX1_layCell_107 : decode cX1_layCell 107 = .ok (.istore 4, 2) := by decide +kernel
theorem dX1_layCell_109 : decode cX1_layCell 109 = .ok (.aload_n 0, 1) := by decide +kernel
theorem dX1_layCell_110 : decode cX1_layCell 110 = .ok (.getfield 33, 3) := by decide +kernel
theorem dX1_layCell_113 : decode cX1_layCell 113 = .ok (.bipush 6, 2) := by decide +kernel
theorem dX1_layCell_115 : decode cX1_layCell 115 = .ok (.iload_n 1, 1) := by decide +kernel
theorem dX1_layCell_116 : decode cX1_layCell 116 = .ok (.imul, 1) := by decide +kernel
theorem dX1_layCell_117 : decode cX1_layCell 117 = .ok (.iload_n 2, 1) := by decide +kernel
theorem dX1_layCell_118 : decode cX1_layCell 118 = .ok (.iadd, 1) := by decide +kernel
theorem dX1_layCell_119 : decode cX1_layCell 119 = .ok (.iload 4, 2) := by decide +kernel
theorem dX1_layCell_121 : decode cX1_layCell 121 = .ok (.iastore, 1) := by decide +kernel
theorem dX1_layCell_122 : decode cX1_layCell 122 = .ok (.aload_n 0, 1) := by decide +kernel
theorem dX1_layCell_123 : decode cX1_layCell 123 = .ok (.getfield 36, 3) := by decide +kernel
theorem dX1_layCell_126 : decode cX1_layCell 126 = .ok (.iload_n 1, 1) := by decide +kernel
theorem dX1_layCell_127 : decode cX1_layCell 127 = .ok (.dup2, 1) := by decide +kernel
theorem dX1_layCell_128 : decode cX1_layCell 128 = .ok (.iaload, 1) := by decide +kernel
theorem dX1_layCell_129 : decode cX1_layCell 129 = .ok (.iload 4, 2) := by decide +kernel
theorem dX1_layCell_131 : decode cX1_layCell 131 = .ok (.isub, 1) := by decide +kernel
theorem dX1_layCell_132 : decode cX1_layCell 132 = .ok (.iastore, 1) := by decide +kernel
theorem dX1_layCell_133 : decode cX1_layCell 133 = .ok (.aload_n 0, 1) := by decide +kernel
theorem dX1_layCell_134 : decode cX1_layCell 134 = .ok (.getfield 39, 3) := by decide +kernel
theorem dX1_layCell_137 : decode cX1_layCell 137 = .ok (.iload_n 2, 1) := by decide +kernel
theorem dX1_layCell_138 : decode cX1_layCell 138 = .ok (.dup2, 1) := by decide +kernel
theorem dX1_layCell_139 : decode cX1_layCell 139 = .ok (.iaload, 1) := by decide +kernel
theorem dX1_layCell_140 : decode cX1_layCell 140 = .ok (.iload 4, 2) := by decide +kernel
theorem dX1_layCell_142 : decode cX1_layCell 142 = .ok (.isub, 1) := by decide +kernel
theorem dX1_layCell_143 : decode cX1_layCell 143 = .ok (.iastore, 1) := by decide +kernel
theorem dX1_layCell_144 : decode cX1_layCell 144 = .ok (.return_, 1) := by decide +kernel
set_option maxRecDepth 20000 in
theorem ggX1_layTable_X1_layCell : GoodIn wsX1_layTable wsX1_layCell := goodIn_ca (goodIn_r _ [10, 2, 4, 1, 11, 12, 13, 14, 15, 9, 16, 17, 18, 19, 20, 21, 22, 23, 24, 25, 26, 27, 28, 29] (by decide +kernel) (by decide +kernel)) (goodIn_sub (fun _ h => List.mem_cons_of_mem _ (List.mem_append_right _ h)) (by decide +kernel))
set_option maxRecDepth 20000 in
theorem gX1_layTable_X1_layCell : GoodIn wsX1_layTable (wsV RX1 136 RX1 yX1_layCell wsX1_layCell) := goodIn_app (goodIn_of _ (by decide +kernel)) ggX1_layTable_X1_layCell
theorem dX1_layTable_0 : decode cX1_layTable 0 = .ok (.iconst 0, 1) := by decide +kernel
theorem dX1_layTable_1 : decode cX1_layTable 1 = .ok (.istore_n 1, 1) := by decide +kernel
theorem dX1_layTable_2 : decode cX1_layTable 2 = .ok (.iload_n 1, 1) := by decide +kernel
theorem dX1_layTable_3 : decode cX1_layTable 3 = .ok (.aload_n 0, 1) := by decide +kernel
theorem dX1_layTable_4 : decode cX1_layTable 4 = .ok (.getfield 7, 3) := by decide +kernel
theorem dX1_layTable_7 : decode cX1_layTable 7 = .ok (.if_icmp .ge 33, 3) := by decide +kernel
theorem dX1_layTable_10 : decode cX1_layTable 10 = .ok (.aload_n 0, 1) := by decide +kernel
theorem dX1_layTable_11 : decode cX1_layTable 11 = .ok (.getfield 36, 3) := by decide +kernel
theorem dX1_layTable_14 : decode cX1_layTable 14 = .ok (.iload_n 1, 1) := by decide +kernel
theorem dX1_layTable_15 : decode cX1_layTable 15 = .ok (.aload_n 0, 1) := by decide +kernel
theorem dX1_layTable_16 : decode cX1_layTable 16 = .ok (.getfield 13, 3) := by decide +kernel
theorem dX1_layTable_19 : decode cX1_layTable 19 = .ok (.iload_n 1, 1) := by decide +kernel
theorem dX1_layTable_20 : decode cX1_layTable 20 = .ok (.iaload, 1) := by decide +kernel
theorem dX1_layTable_21 : decode cX1_layTable 21 = .ok (.iastore, 1) := by decide +kernel
theorem dX1_layTable_22 : decode cX1_layTable 22 = .ok (.aload_n 0, 1) := by decide +kernel
theorem dX1_layTable_23 : decode cX1_layTable 23 = .ok (.getfield 39, 3) := by decide +kernel
theorem dX1_layTable_26 : decode cX1_layTable 26 = .ok (.iload_n 1, 1) := by decide +kernel
theorem dX1_layTable_27 : decode cX1_layTable 27 = .ok (.aload_n 0, 1) := by decide +kernel
theorem dX1_layTable_28 : decode cX1_layTable 28 = .ok (.getfield 17, 3) := by decide +kernel
theorem dX1_layTable_31 : decode cX1_layTable 31 = .ok (.iload_n 1, 1) := by decide +kernel
theorem dX1_layTable_32 : decode cX1_layTable 32 = .ok (.iaload, 1) := by decide +kernel
theorem dX1_layTable_33 : decode cX1_layTable 33 = .ok (.iastore, 1) := by decide +kernel
theorem dX1_layTable_34 : decode cX1_layTable 34 = .ok (.iinc 1 1, 3) := by decide +kernel
theorem dX1_layTable_37 : decode cX1_layTable 37 = .ok (.goto (-35), 3) := by decide +kernel
theorem dX1_layTable_40 : decode cX1_layTable 40 = .ok (.iconst 0, 1) := by decide +kernel
theorem dX1_layTable_41 : decode cX1_layTable 41 = .ok (.istore_n 1, 1) := by decide +kernel
theorem dX1_layTable_42 : decode cX1_layTable 42 = .ok (.iload_n 1, 1) := by decide +kernel
theorem dX1_layTable_43 : decode cX1_layTable 43 = .ok (.aload_n 0, 1) := by decide +kernel
theorem dX1_layTable_44 : decode cX1_layTable 44 = .ok (.getfield 7, 3) := by decide +kernel
theorem dX1_layTable_47 : decode cX1_layTable 47 = .ok (.if_icmp .ge 31, 3) := by decide +kernel
theorem dX1_layTable_50 : decode cX1_layTable 50 = .ok (.iconst 0, 1) := by decide +kernel
theorem dX1_layTable_51 : decode cX1_layTable 51 = .ok (.istore_n 2, 1) := by decide +kernel
theorem dX1_layTable_52 : decode cX1_layTable 52 = .ok (.iload_n 2, 1) := by decide +kernel
theorem dX1_layTable_53 : decode cX1_layTable 53 = .ok (.aload_n 0, 1) := by decide +kernel
theorem dX1_layTable_54 : decode cX1_layTable 54 = .ok (.getfield 7, 3) := by decide +kernel
theorem dX1_layTable_57 : decode cX1_layTable 57 = .ok (.if_icmp .ge 15, 3) := by decide +kernel
theorem dX1_layTable_60 : decode cX1_layTable 60 = .ok (.aload_n 0, 1) := by decide +kernel
theorem dX1_layTable_61 : decode cX1_layTable 61 = .ok (.iload_n 1, 1) := by decide +kernel
theorem dX1_layTable_62 : decode cX1_layTable 62 = .ok (.iload_n 2, 1) := by decide +kernel
theorem dX1_layTable_63 : decode cX1_layTable 63 = .ok (.invokevirtual 136, 3) := by decide +kernel
theorem dX1_layTable_66 : decode cX1_layTable 66 = .ok (.iinc 2 1, 3) := by decide +kernel
theorem dX1_layTable_69 : decode cX1_layTable 69 = .ok (.goto (-17), 3) := by decide +kernel
theorem dX1_layTable_72 : decode cX1_layTable 72 = .ok (.iinc 1 1, 3) := by decide +kernel
theorem dX1_layTable_75 : decode cX1_layTable 75 = .ok (.goto (-33), 3) := by decide +kernel
theorem dX1_layTable_78 : decode cX1_layTable 78 = .ok (.return_, 1) := by decide +kernel
set_option maxRecDepth 20000 in
theorem ggX1_possibleNow_X1_arePossible : GoodIn wsX1_possibleNow wsX1_arePossible := goodIn_ca (goodIn_r _ [6, 7, 8, 9, 5, 10, 11, 12, 13, 14, 15, 16, 17, 18, 19, 20, 21, 22, 37, 38, 39, 40, 41, 42, 43, 44, 45, 46, 47, 48, 49] (by decide +kernel) (by decide +kernel)) (goodIn_sub (fun _ h => List.mem_cons_of_mem _ (List.mem_append_right _ h)) (by decide +kernel))
set_option maxRecDepth 20000 in
theorem gX1_possibleNow_X1_arePossible : GoodIn wsX1_possibleNow (wsV RX1 80 RX1 yX1_arePossible wsX1_arePossible) := goodIn_app (goodIn_of _ (by decide +kernel)) ggX1_possibleNow_X1_arePossible
set_option maxRecDepth 20000 in
theorem ggX1_possibleNow_X1_layTable : GoodIn wsX1_possibleNow wsX1_layTable := goodIn_ca (goodIn_r _ [26, 11, 27, 12, 28, 13, 29, 30, 31, 5, 32, 22, 1, 33, 34, 35, 36, 37, 38, 39, 40, 41, 42, 43, 44, 45, 46, 47, 48, 49] (by decide +kernel) (by decide +kernel)) (goodIn_sub (fun _ h => List.mem_cons_of_mem _ (List.mem_append_right _ h)) (by decide +kernel))
set_option maxRecDepth 20000 in
theorem gX1_possibleNow_X1_layTable : GoodIn wsX1_possibleNow (wsV RX1 140 RX1 yX1_layTable wsX1_layTable) := goodIn_app (goodIn_of _ (by decide +kernel)) ggX1_possibleNow_X1_layTable
theorem dX1_possibleNow_0 : decode cX1_possibleNow 0 = .ok (.aload_n 0, 1) := by decide +kernel
theorem dX1_possibleNow_1 : decode cX1_possibleNow 1 = .ok (.invokevirtual 80, 3) := by decide +kernel
theorem dX1_possibleNow_4 : decode cX1_possibleNow 4 = .ok (.ifCond .ne 5, 3) := by decide +kernel
theorem dX1_possibleNow_7 : decode cX1_possibleNow 7 = .ok (.iconst (-1), 1) := by decide +kernel
theorem dX1_possibleNow_8 : decode cX1_possibleNow 8 = .ok (.ireturn, 1) := by decide +kernel
theorem dX1_possibleNow_9 : decode cX1_possibleNow 9 = .ok (.aload_n 0, 1) := by decide +kernel
theorem dX1_possibleNow_10 : decode cX1_possibleNow 10 = .ok (.invokevirtual 140, 3) := by decide +kernel
theorem dX1_possibleNow_13 : decode cX1_possibleNow 13 = .ok (.aload_n 0, 1) := by decide +kernel
theorem dX1_possibleNow_14 : decode cX1_possibleNow 14 = .ok (.getfield 33, 3) := by decide +kernel
theorem dX1_possibleNow_17 : decode cX1_possibleNow 17 = .ok (.bipush 6, 2) := by decide +kernel
theorem dX1_possibleNow_19 : decode cX1_possibleNow 19 = .ok (.iload_n 1, 1) := by decide +kernel
theorem dX1_possibleNow_20 : decode cX1_possibleNow 20 = .ok (.imul, 1) := by decide +kernel
theorem dX1_possibleNow_21 : decode cX1_possibleNow 21 = .ok (.iload_n 2, 1) := by decide +kernel
theorem dX1_possibleNow_22 : decode cX1_possibleNow 22 = .ok (.iadd, 1) := by decide +kernel
theorem dX1_possibleNow_23 : decode cX1_possibleNow 23 = .ok (.iaload, 1) := by decide +kernel
theorem dX1_possibleNow_24 : decode cX1_possibleNow 24 = .ok (.ireturn, 1) := by decide +kernel
set_option maxRecDepth 20000 in
theorem ggX1_possible_X1_areArms : GoodIn wsX1_possible wsX1_areArms := goodIn_r _ [6, 7, 8, 9, 5, 10, 11, 12, 13, 14, 53, 54, 55, 56, 57, 58, 59, 60, 61, 62, 63, 64, 65] (by decide +kernel) (by decide +kernel)
set_option maxRecDepth 20000 in
theorem gX1_possible_X1_areArms : GoodIn wsX1_possible (wsV RX1 112 RX1 yX1_areArms wsX1_areArms) := goodIn_app (goodIn_of _ (by decide +kernel)) ggX1_possible_X1_areArms
set_option maxRecDepth 20000 in
theorem ggX1_possible_X1_possibleNow : GoodIn wsX1_possible wsX1_possibleNow := goodIn_ca (goodIn_r _ [18, 19, 20, 21, 22, 5, 23, 24, 25, 26, 27, 11, 28, 29, 30, 31, 32, 33, 34, 35, 36, 37, 38, 39, 40, 41, 42, 43, 44, 45, 46, 47, 48, 49, 50, 51, 52, 53, 54, 55, 56, 57, 58, 59, 60, 61, 62, 63, 64, 65] (by decide +kernel) (by decide +kernel)) (goodIn_sub (fun _ h => List.mem_cons_of_mem _ (List.mem_append_right _ h)) (by decide +kernel))
set_option maxRecDepth 20000 in
theorem gX1_possible_X1_possibleNow : GoodIn wsX1_possible (wsV RX1 143 RX1 yX1_possibleNow wsX1_possibleNow) := goodIn_app (goodIn_of _ (by decide +kernel)) ggX1_possible_X1_possibleNow
theorem dX1_possible_0 : decode cX1_possible 0 = .ok (.aload_n 0, 1) := by decide +kernel
theorem dX1_possible_1 : decode cX1_possible 1 = .ok (.aload_n 0, 1) := by decide +kernel
theorem dX1_possible_2 : decode cX1_possible 2 = .ok (.iload_n 1, 1) := by decide +kernel
theorem dX1_possible_3 : decode cX1_possible 3 = .ok (.iload_n 2, 1) := by decide +kernel
theorem dX1_possible_4 : decode cX1_possible 4 = .ok (.invokevirtual 112, 3) := by decide +kernel
theorem dX1_possible_7 : decode cX1_possible 7 = .ok (.ifCond .eq 7, 3) := by decide +kernel
theorem dX1_possible_10 : decode cX1_possible 10 = .ok (.iconst 0, 1) := by decide +kernel
theorem dX1_possible_11 : decode cX1_possible 11 = .ok (.goto 4, 3) := by decide +kernel
theorem dX1_possible_14 : decode cX1_possible 14 = .ok (.iconst 1, 1) := by decide +kernel
theorem dX1_possible_15 : decode cX1_possible 15 = .ok (.putfield 45, 3) := by decide +kernel
theorem dX1_possible_18 : decode cX1_possible 18 = .ok (.aload_n 0, 1) := by decide +kernel
theorem dX1_possible_19 : decode cX1_possible 19 = .ok (.getfield 45, 3) := by decide +kernel
theorem dX1_possible_22 : decode cX1_possible 22 = .ok (.ifCond .le 7, 3) := by decide +kernel
theorem dX1_possible_25 : decode cX1_possible 25 = .ok (.iconst 0, 1) := by decide +kernel
theorem dX1_possible_26 : decode cX1_possible 26 = .ok (.goto 9, 3) := by decide +kernel
theorem dX1_possible_29 : decode cX1_possible 29 = .ok (.aload_n 0, 1) := by decide +kernel
theorem dX1_possible_30 : decode cX1_possible 30 = .ok (.iload_n 1, 1) := by decide +kernel
theorem dX1_possible_31 : decode cX1_possible 31 = .ok (.iload_n 2, 1) := by decide +kernel
theorem dX1_possible_32 : decode cX1_possible 32 = .ok (.invokevirtual 143, 3) := by decide +kernel
theorem dX1_possible_35 : decode cX1_possible 35 = .ok (.ireturn, 1) := by decide +kernel
theorem dX1_mix_0 : decode cX1_mix 0 = .ok (.aload_n 0, 1) := by decide +kernel
theorem dX1_mix_1 : decode cX1_mix 1 = .ok (.ldc2_w 146, 3) := by decide +kernel
theorem dX1_mix_4 : decode cX1_mix 4 = .ok (.aload_n 0, 1) := by decide +kernel
theorem dX1_mix_5 : decode cX1_mix 5 = .ok (.getfield 148, 3) := by decide +kernel
theorem dX1_mix_8 : decode cX1_mix 8 = .ok (.lmul, 1) := by decide +kernel
theorem dX1_mix_9 : decode cX1_mix 9 = .ok (.lload_n 1, 1) := by decide +kernel
theorem dX1_mix_10 : decode cX1_mix 10 = .ok (.ladd, 1) := by decide +kernel
theorem dX1_mix_11 : decode cX1_mix 11 = .ok (.putfield 148, 3) := by decide +kernel
theorem dX1_mix_14 : decode cX1_mix 14 = .ok (.return_, 1) := by decide +kernel
set_option maxRecDepth 20000 in
theorem ggX1_mixTurns_X1_layWhole : GoodIn wsX1_mixTurns wsX1_layWhole := goodIn_ca (goodIn_r _ [12, 1, 13, 14, 15, 11, 16, 3, 17, 5, 18, 19, 20, 21, 22, 23, 24, 25, 26, 27, 2, 65, 66, 67, 68, 69, 70, 71, 72, 73, 74, 75, 76, 77] (by decide +kernel) (by decide +kernel)) (goodIn_sub (fun _ h => List.mem_cons_of_mem _ (List.mem_append_right _ h)) (by decide +kernel))
set_option maxRecDepth 20000 in
theorem gX1_mixTurns_X1_layWhole : GoodIn wsX1_mixTurns (wsV RX1 127 RX1 yX1_layWhole wsX1_layWhole) := goodIn_app (goodIn_of _ (by decide +kernel)) ggX1_mixTurns_X1_layWhole
set_option maxRecDepth 20000 in
theorem ggX1_mixTurns_X1_arePossible : GoodIn wsX1_mixTurns wsX1_arePossible := goodIn_ca (goodIn_r _ [31, 32, 33, 34, 11, 35, 1, 17, 36, 37, 38, 39, 40, 41, 42, 43, 44, 2, 65, 66, 67, 68, 69, 70, 71, 72, 73, 74, 75, 76, 77] (by decide +kernel) (by decide +kernel)) (goodIn_sub (fun _ h => List.mem_cons_of_mem _ (List.mem_append_right _ h)) (by decide +kernel))
set_option maxRecDepth 20000 in
theorem gX1_mixTurns_X1_arePossible : GoodIn wsX1_mixTurns (wsV RX1 80 RX1 yX1_arePossible wsX1_arePossible) := goodIn_app (goodIn_of _ (by decide +kernel)) ggX1_mixTurns_X1_arePossible
set_option maxRecDepth 20000 in
theorem ggX1_mixTurns_X1_layTable : GoodIn wsX1_mixTurns wsX1_layTable := goodIn_ca (goodIn_r _ [48, 1, 49, 17, 50, 36, 51, 52, 53, 11, 54, 2, 6, 55, 56, 57, 58, 65, 66, 67, 68, 69, 70, 71, 72, 73, 74, 75, 76, 77] (by decide +kernel) (by decide +kernel)) (goodIn_sub (fun _ h => List.mem_cons_of_mem _ (List.mem_append_right _ h)) (by decide +kernel))
set_option maxRecDepth 20000 in
theorem gX1_mixTurns_X1_layTable : GoodIn wsX1_mixTurns (wsV RX1 140 RX1 yX1_layTable wsX1_layTable) := goodIn_app (goodIn_of _ (by decide +kernel)) ggX1_mixTurns_X1_layTable
set_option maxRecDepth 20000 in
theorem ggX1_mixTurns_X1_mix : GoodIn wsX1_mixTurns wsX1_mix := goodIn_r _ [62, 63, 64, 65, 66, 67, 68, 69, 70, 71, 72, 73, 74, 75, 76, 77] (by decide +kernel) (by decide +kernel)
set_option maxRecDepth 20000 in
theorem gX1_mixTurns_X1_mix : GoodIn wsX1_mixTurns (wsV RX1 152 RX1 yX1_mix wsX1_mix) := goodIn_app (goodIn_of _ (by decide +kernel)) ggX1_mixTurns_X1_mix
theorem dX1_mixTurns_0 : decode cX1_mixTurns 0 = .ok (.aload_n 0, 1) := by decide +kernel
theorem dX1_mixTurns_1 : decode cX1_mixTurns 1 = .ok (.invokevirtual 127, 3) := by decide +kernel
theorem dX1_mixTurns_4 : decode cX1_mixTurns 4 = .ok (.aload_n 0, 1) := by decide +kernel
theorem dX1_mixTurns_5 : decode cX1_mixTurns 5 = .ok (.invokevirtual 80, 3) := by decide +kernel
theorem dX1_mixTurns_8 : decode cX1_mixTurns 8 = .ok (.istore_n 1, 1) := by decide +kernel
theorem dX1_mixTurns_9 : decode cX1_mixTurns 9 = .ok (.iload_n 1, 1) := by decide +kernel
theorem dX1_mixTurns_10 : decode cX1_mixTurns 10 = .ok (.ifCond .eq 7, 3) := by decide +kernel
theorem dX1_mixTurns_13 : decode cX1_mixTurns 13 = .ok (.aload_n 0, 1) := by decide +kernel
theorem dX1_mixTurns_14 : decode cX1_mixTurns 14 = .ok (.invokevirtual 140, 3) := by decide +kernel
theorem dX1_mixTurns_17 : decode cX1_mixTurns 17 = .ok (.iconst 0, 1) := by decide +kernel
theorem dX1_mixTurns_18 : decode cX1_mixTurns 18 = .ok (.istore_n 2, 1) := by decide +kernel
theorem dX1_mixTurns_19 : decode cX1_mixTurns 19 = .ok (.iload_n 2, 1) := by decide +kernel
theorem dX1_mixTurns_20 : decode cX1_mixTurns 20 = .ok (.aload_n 0, 1) := by decide +kernel
theorem dX1_mixTurns_21 : decode cX1_mixTurns 21 = .ok (.getfield 7, 3) := by decide +kernel
theorem dX1_mixTurns_24 : decode cX1_mixTurns 24 = .ok (.if_icmp .ge 103, 3) := by decide +kernel
theorem dX1_mixTurns_27 : decode cX1_mixTurns 27 = .ok (.iconst 0, 1) := by decide +kernel
theorem dX1_mixTurns_28 : decode cX1_mixTurns 28 = .ok (.istore_n 3, 1) := by decide +kernel
theorem dX1_mixTurns_29 : decode cX1_mixTurns 29 = .ok (.iload_n 3, 1) := by decide +kernel
theorem dX1_mixTurns_30 : decode cX1_mixTurns 30 = .ok (.aload_n 0, 1) := by decide +kernel
theorem dX1_mixTurns_31 : decode cX1_mixTurns 31 = .ok (.getfield 7, 3) := by decide +kernel
theorem dX1_mixTurns_34 : decode cX1_mixTurns 34 = .ok (.if_icmp .ge 87, 3) := by decide +kernel
theorem dX1_mixTurns_37 : decode cX1_mixTurns 37 = .ok (.aload_n 0, 1) := by decide +kernel
theorem dX1_mixTurns_38 : decode cX1_mixTurns 38 = .ok (.aload_n 0, 1) := by decide +kernel
theorem dX1_mixTurns_39 : decode cX1_mixTurns 39 = .ok (.getfield 20, 3) := by decide +kernel
theorem dX1_mixTurns_42 : decode cX1_mixTurns 42 = .ok (.bipush 6, 2) := by decide +kernel
theorem dX1_mixTurns_44 : decode cX1_mixTurns 44 = .ok (.iload_n 2, 1) := by decide +kernel
theorem dX1_mixTurns_45 : decode cX1_mixTurns 45 = .ok (.imul, 1) := by decide +kernel
theorem dX1_mixTurns_46 : decode cX1_mixTurns 46 = .ok (.iload_n 3, 1) := by decide +kernel
theorem dX1_mixTurns_47 : decode cX1_mixTurns 47 = .ok (.iadd, 1) := by decide +kernel
theorem dX1_mixTurns_48 : decode cX1_mixTurns 48 = .ok (.iaload, 1) := by decide +kernel
theorem dX1_mixTurns_49 : decode cX1_mixTurns 49 = .ok (.i2l, 1) := by decide +kernel
theorem dX1_mixTurns_50 : decode cX1_mixTurns 50 = .ok (.invokevirtual 152, 3) := by decide +kernel
theorem dX1_mixTurns_53 : decode cX1_mixTurns 53 = .ok (.aload_n 0, 1) := by decide +kernel
theorem dX1_mixTurns_54 : decode cX1_mixTurns 54 = .ok (.aload_n 0, 1) := by decide +kernel
theorem dX1_mixTurns_55 : decode cX1_mixTurns 55 = .ok (.getfield 23, 3) := by decide +kernel
theorem dX1_mixTurns_58 : decode cX1_mixTurns 58 = .ok (.bipush 6, 2) := by decide +kernel
theorem dX1_mixTurns_60 : decode cX1_mixTurns 60 = .ok (.iload_n 2, 1) := by decide +kernel
theorem dX1_mixTurns_61 : decode cX1_mixTurns 61 = .ok (.imul, 1) := by decide +kernel
theorem dX1_mixTurns_62 : decode cX1_mixTurns 62 = .ok (.iload_n 3, 1) := by decide +kernel
theorem dX1_mixTurns_63 : decode cX1_mixTurns 63 = .ok (.iadd, 1) := by decide +kernel
theorem dX1_mixTurns_64 : decode cX1_mixTurns 64 = .ok (.daload, 1) := by decide +kernel
theorem dX1_mixTurns_65 : decode cX1_mixTurns 65 = .ok (.ldc2_w 110, 3) := by decide +kernel
theorem dX1_mixTurns_68 : decode cX1_mixTurns 68 = .ok (.dmul, 1) := by decide +kernel
theorem dX1_mixTurns_69 : decode cX1_mixTurns 69 = .ok (.d2l, 1) := by decide +kernel
theorem dX1_mixTurns_70 : decode cX1_mixTurns 70 = .ok (.invokevirtual 152, 3) := by decide +kernel
theorem dX1_mixTurns_73 : decode cX1_mixTurns 73 = .ok (.aload_n 0, 1) := by decide +kernel
theorem dX1_mixTurns_74 : decode cX1_mixTurns 74 = .ok (.aload_n 0, 1) := by decide +kernel
theorem dX1_mixTurns_75 : decode cX1_mixTurns 75 = .ok (.getfield 27, 3) := by decide +kernel
theorem dX1_mixTurns_78 : decode cX1_mixTurns 78 = .ok (.bipush 6, 2) := by decide +kernel
theorem dX1_mixTurns_80 : decode cX1_mixTurns 80 = .ok (.iload_n 2, 1) := by decide +kernel
theorem dX1_mixTurns_81 : decode cX1_mixTurns 81 = .ok (.imul, 1) := by decide +kernel
theorem dX1_mixTurns_82 : decode cX1_mixTurns 82 = .ok (.iload_n 3, 1) := by decide +kernel
theorem dX1_mixTurns_83 : decode cX1_mixTurns 83 = .ok (.iadd, 1) := by decide +kernel
theorem dX1_mixTurns_84 : decode cX1_mixTurns 84 = .ok (.iaload, 1) := by decide +kernel
theorem dX1_mixTurns_85 : decode cX1_mixTurns 85 = .ok (.i2l, 1) := by decide +kernel
theorem dX1_mixTurns_86 : decode cX1_mixTurns 86 = .ok (.invokevirtual 152, 3) := by decide +kernel
theorem dX1_mixTurns_89 : decode cX1_mixTurns 89 = .ok (.aload_n 0, 1) := by decide +kernel
theorem dX1_mixTurns_90 : decode cX1_mixTurns 90 = .ok (.iload_n 1, 1) := by decide +kernel
theorem dX1_mixTurns_91 : decode cX1_mixTurns 91 = .ok (.ifCond .eq 18, 3) := by decide +kernel
theorem dX1_mixTurns_94 : decode cX1_mixTurns 94 = .ok (.aload_n 0, 1) := by decide +kernel
theorem dX1_mixTurns_95 : decode cX1_mixTurns 95 = .ok (.getfield 33, 3) := by decide +kernel
theorem dX1_mixTurns_98 : decode cX1_mixTurns 98 = .ok (.bipush 6, 2) := by decide +kernel
theorem dX1_mixTurns_100 : decode cX1_mixTurns 100 = .ok (.iload_n 2, 1) := by decide +kernel
theorem dX1_mixTurns_101 : decode cX1_mixTurns 101 = .ok (.imul, 1) := by decide +kernel
theorem dX1_mixTurns_102 : decode cX1_mixTurns 102 = .ok (.iload_n 3, 1) := by decide +kernel
theorem dX1_mixTurns_103 : decode cX1_mixTurns 103 = .ok (.iadd, 1) := by decide +kernel
theorem dX1_mixTurns_104 : decode cX1_mixTurns 104 = .ok (.iaload, 1) := by decide +kernel
theorem dX1_mixTurns_105 : decode cX1_mixTurns 105 = .ok (.i2l, 1) := by decide +kernel
theorem dX1_mixTurns_106 : decode cX1_mixTurns 106 = .ok (.goto 6, 3) := by decide +kernel
theorem dX1_mixTurns_109 : decode cX1_mixTurns 109 = .ok (.ldc2_w 156, 3) := by decide +kernel
theorem dX1_mixTurns_112 : decode cX1_mixTurns 112 = .ok (.invokevirtual 152, 3) := by decide +kernel
theorem dX1_mixTurns_115 : decode cX1_mixTurns 115 = .ok (.iinc 3 1, 3) := by decide +kernel
theorem dX1_mixTurns_118 : decode cX1_mixTurns 118 = .ok (.goto (-89), 3) := by decide +kernel
theorem dX1_mixTurns_121 : decode cX1_mixTurns 121 = .ok (.iinc 2 1, 3) := by decide +kernel
theorem dX1_mixTurns_124 : decode cX1_mixTurns 124 = .ok (.goto (-105), 3) := by decide +kernel
theorem dX1_mixTurns_127 : decode cX1_mixTurns 127 = .ok (.return_, 1) := by decide +kernel
set_option maxRecDepth 20000 in
theorem ggX1_digest_X1_mix : GoodIn wsX1_digest wsX1_mix := goodIn_r _ [13, 14, 3, 91, 92, 93, 94, 95, 96, 97, 98, 99, 100, 101, 102, 103] (by decide +kernel) (by decide +kernel)
set_option maxRecDepth 20000 in
theorem gX1_digest_X1_mix : GoodIn wsX1_digest (wsV RX1 152 RX1 yX1_mix wsX1_mix) := goodIn_app (goodIn_of _ (by decide +kernel)) ggX1_digest_X1_mix
set_option maxRecDepth 20000 in
theorem ggX1_digest_X1_mixTurns : GoodIn wsX1_digest wsX1_mixTurns := goodIn_ca (goodIn_r _ [18, 4, 19, 20, 8, 21, 22, 23, 24, 25, 26, 12, 27, 28, 29, 30, 31, 5, 32, 33, 34, 35, 36, 37, 38, 39, 40, 41, 42, 43, 44, 45, 46, 47, 48, 49, 6, 50, 51, 52, 53, 54, 55, 56, 57, 58, 59, 60, 61, 62, 63, 64, 65, 66, 67, 68, 69, 70, 71, 9, 10, 11, 13, 14, 3, 91, 92, 93, 94, 95, 96, 97, 98, 99, 100, 101, 102, 103] (by decide +kernel) (by decide +kernel)) (goodIn_sub (fun _ h => List.mem_cons_of_mem _ (List.mem_append_right _ h)) (by decide +kernel))
set_option maxRecDepth 20000 in
theorem gX1_digest_X1_mixTurns : GoodIn wsX1_digest (wsV RX1 160 RX1 yX1_mixTurns wsX1_mixTurns) := goodIn_app (goodIn_of _ (by decide +kernel)) ggX1_digest_X1_mixTurns
set_option maxRecDepth 20000 in
theorem ggX1_digest_X1_difference : GoodIn wsX1_digest wsX1_difference := goodIn_ca (goodIn_r _ [49, 4, 5, 6, 91, 92, 93, 94, 95, 96, 97, 98, 99, 100, 101, 102, 103] (by decide +kernel) (by decide +kernel)) (goodIn_sub (fun _ h => List.mem_cons_of_mem _ (List.mem_append_right _ h)) (by decide +kernel))
set_option maxRecDepth 20000 in
theorem gX1_digest_X1_difference : GoodIn wsX1_digest (wsV RX1 69 RX1 yX1_difference wsX1_difference) := goodIn_app (goodIn_of _ (by decide +kernel)) ggX1_digest_X1_difference
set_option maxRecDepth 20000 in
theorem ggX1_digest_X1_crowded : GoodIn wsX1_digest wsX1_crowded := goodIn_ca (goodIn_r _ [53, 4, 54, 55, 56, 12, 57, 19, 5, 6, 91, 92, 93, 94, 95, 96, 97, 98, 99, 100, 101, 102, 103] (by decide +kernel) (by decide +kernel)) (goodIn_sub (fun _ h => List.mem_cons_of_mem _ (List.mem_append_right _ h)) (by decide +kernel))
set_option maxRecDepth 20000 in
theorem gX1_digest_X1_crowded : GoodIn wsX1_digest (wsV RX1 77 RX1 yX1_crowded wsX1_crowded) := goodIn_app (goodIn_of _ (by decide +kernel)) ggX1_digest_X1_crowded
set_option maxRecDepth 20000 in
theorem ggX1_digest_X1_misfitNow : GoodIn wsX1_digest wsX1_misfitNow := goodIn_ca (goodIn_r _ [75, 4, 5, 6, 34, 35, 36, 12, 37, 20, 76, 77, 78, 79, 80, 81, 82, 91, 92, 93, 94, 95, 96, 97, 98, 99, 100, 101, 102, 103] (by decide +kernel) (by decide +kernel)) (goodIn_sub (fun _ h => List.mem_cons_of_mem _ (List.mem_append_right _ h)) (by decide +kernel))
set_option maxRecDepth 20000 in
theorem gX1_digest_X1_misfitNow : GoodIn wsX1_digest (wsV RX1 106 RX1 yX1_misfitNow wsX1_misfitNow) := goodIn_app (goodIn_of _ (by decide +kernel)) ggX1_digest_X1_misfitNow
set_option maxRecDepth 20000 in
theorem ggX1_digest_X1_busiest : GoodIn wsX1_digest wsX1_busiest := goodIn_ca (goodIn_r _ [86, 4, 20, 91, 92, 93, 94, 95, 96, 97, 98, 99, 100, 101, 102, 103] (by decide +kernel) (by decide +kernel)) (goodIn_sub (fun _ h => List.mem_cons_of_mem _ (List.mem_append_right _ h)) (by decide +kernel))
set_option maxRecDepth 20000 in
theorem gX1_digest_X1_busiest : GoodIn wsX1_digest (wsV RX1 116 RX1 yX1_busiest wsX1_busiest) := goodIn_app (goodIn_of _ (by decide +kernel)) ggX1_digest_X1_busiest
set_option maxRecDepth 20000 in
theorem ggX1_digest_X1_wholeMisfit : GoodIn wsX1_digest wsX1_wholeMisfit := goodIn_ca (goodIn_r _ [90, 4, 6, 21, 24, 25, 26, 12, 27, 28, 29, 30, 31, 20, 5, 32, 33, 34, 35, 36, 37, 38, 39, 40, 41, 19, 91, 92, 93, 94, 95, 96, 97, 98, 99, 100, 101, 102, 103] (by decide +kernel) (by decide +kernel)) (goodIn_sub (fun _ h => List.mem_cons_of_mem _ (List.mem_append_right _ h)) (by decide +kernel))
set_option maxRecDepth 20000 in
theorem gX1_digest_X1_wholeMisfit : GoodIn wsX1_digest (wsV RX1 130 RX1 yX1_wholeMisfit wsX1_wholeMisfit) := goodIn_app (goodIn_of _ (by decide +kernel)) ggX1_digest_X1_wholeMisfit
theorem dX1_digest_0 : decode cX1_digest 0 = .ok (.aload_n 0, 1) := by decide +kernel
theorem dX1_digest_1 : decode cX1_digest 1 = .ok (.iconst 0, 1) := by decide +kernel
theorem dX1_digest_2 : decode cX1_digest 2 = .ok (.putfield 45, 3) := by decide +kernel
theorem dX1_digest_5 : decode cX1_digest 5 = .ok (.aload_n 0, 1) := by decide +kernel
theorem dX1_digest_6 : decode cX1_digest 6 = .ok (.ldc2_w 158, 3) := by decide +kernel
theorem dX1_digest_9 : decode cX1_digest 9 = .ok (.putfield 148, 3) := by decide +kernel
theorem dX1_digest_12 : decode cX1_digest 12 = .ok (.aload_n 0, 1) := by decide +kernel
theorem dX1_digest_13 : decode cX1_digest 13 = .ok (.aload_n 0, 1) := by decide +kernel
theorem dX1_digest_14 : decode cX1_digest 14 = .ok (.getfield 7, 3) := by decide +kernel
theorem dX1_digest_17 : decode cX1_digest 17 = .ok (.i2l, 1) := by decide +kernel
theorem dX1_digest_18 : decode cX1_digest 18 = .ok (.invokevirtual 152, 3) := by decide +kernel
theorem dX1_digest_21 : decode cX1_digest 21 = .ok (.iconst 0, 1) := by decide +kernel
theorem dX1_digest_22 : decode cX1_digest 22 = .ok (.istore_n 1, 1) := by decide +kernel
theorem dX1_digest_23 : decode cX1_digest 23 = .ok (.iload_n 1, 1) := by decide +kernel
theorem dX1_digest_24 : decode cX1_digest 24 = .ok (.aload_n 0, 1) := by decide +kernel
theorem dX1_digest_25 : decode cX1_digest 25 = .ok (.getfield 7, 3) := by decide +kernel
theorem dX1_digest_28 : decode cX1_digest 28 = .ok (.if_icmp .ge 31, 3) := by decide +kernel
theorem dX1_digest_31 : decode cX1_digest 31 = .ok (.aload_n 0, 1) := by decide +kernel
theorem dX1_digest_32 : decode cX1_digest 32 = .ok (.aload_n 0, 1) := by decide +kernel
theorem dX1_digest_33 : decode cX1_digest 33 = .ok (.getfield 13, 3) := by decide +kernel
theorem dX1_digest_36 : decode cX1_digest 36 = .ok (.iload_n 1, 1) := by decide +kernel
theorem dX1_digest_37 : decode cX1_digest 37 = .ok (.iaload, 1) := by decide +kernel
theorem dX1_digest_38 : decode cX1_digest 38 = .ok (.i2l, 1) := by decide +kernel
theorem dX1_digest_39 : decode cX1_digest 39 = .ok (.invokevirtual 152, 3) := by decide +kernel
theorem dX1_digest_42 : decode cX1_digest 42 = .ok (.aload_n 0, 1) := by decide +kernel
theorem dX1_digest_43 : decode cX1_digest 43 = .ok (.aload_n 0, 1) := by decide +kernel
theorem dX1_digest_44 : decode cX1_digest 44 = .ok (.getfield 17, 3) := by decide +kernel
theorem dX1_digest_47 : decode cX1_digest 47 = .ok (.iload_n 1, 1) := by decide +kernel
theorem dX1_digest_48 : decode cX1_digest 48 = .ok (.iaload, 1) := by decide +kernel
theorem dX1_digest_49 : decode cX1_digest 49 = .ok (.i2l, 1) := by decide +kernel
theorem dX1_digest_50 : decode cX1_digest 50 = .ok (.invokevirtual 152, 3) := by decide +kernel
theorem dX1_digest_53 : decode cX1_digest 53 = .ok (.iinc 1 1, 3) := by decide +kernel
theorem dX1_digest_56 : decode cX1_digest 56 = .ok (.goto (-33), 3) := by decide +kernel
theorem dX1_digest_59 : decode cX1_digest 59 = .ok (.aload_n 0, 1) := by decide +kernel
theorem dX1_digest_60 : decode cX1_digest 60 = .ok (.invokevirtual 160, 3) := by decide +kernel
theorem dX1_digest_63 : decode cX1_digest 63 = .ok (.aload_n 0, 1) := by decide +kernel
theorem dX1_digest_64 : decode cX1_digest 64 = .ok (.aload_n 0, 1) := by decide +kernel
theorem dX1_digest_65 : decode cX1_digest 65 = .ok (.invokevirtual 69, 3) := by decide +kernel
theorem dX1_digest_68 : decode cX1_digest 68 = .ok (.i2l, 1) := by decide +kernel
theorem dX1_digest_69 : decode cX1_digest 69 = .ok (.invokevirtual 152, 3) := by decide +kernel
theorem dX1_digest_72 : decode cX1_digest 72 = .ok (.aload_n 0, 1) := by decide +kernel
theorem dX1_digest_73 : decode cX1_digest 73 = .ok (.aload_n 0, 1) := by decide +kernel
theorem dX1_digest_74 : decode cX1_digest 74 = .ok (.invokevirtual 77, 3) := by decide +kernel
theorem dX1_digest_77 : decode cX1_digest 77 = .ok (.i2l, 1) := by decide +kernel
theorem dX1_digest_78 : decode cX1_digest 78 = .ok (.invokevirtual 152, 3) := by decide +kernel
theorem dX1_digest_81 : decode cX1_digest 81 = .ok (.aload_n 0, 1) := by decide +kernel
theorem dX1_digest_82 : decode cX1_digest 82 = .ok (.aload_n 0, 1) := by decide +kernel
theorem dX1_digest_83 : decode cX1_digest 83 = .ok (.getfield 52, 3) := by decide +kernel
theorem dX1_digest_86 : decode cX1_digest 86 = .ok (.i2l, 1) := by decide +kernel
theorem dX1_digest_87 : decode cX1_digest 87 = .ok (.invokevirtual 152, 3) := by decide +kernel
theorem dX1_digest_90 : decode cX1_digest 90 = .ok (.aload_n 0, 1) := by decide +kernel
theorem dX1_digest_91 : decode cX1_digest 91 = .ok (.aload_n 0, 1) := by decide +kernel
theorem dX1_digest_92 : decode cX1_digest 92 = .ok (.invokevirtual 106, 3) := by decide +kernel
theorem dX1_digest_95 : decode cX1_digest 95 = .ok (.ldc2_w 110, 3) := by decide +kernel
theorem dX1_digest_98 : decode cX1_digest 98 = .ok (.dmul, 1) := by decide +kernel
theorem dX1_digest_99 : decode cX1_digest 99 = .ok (.d2l, 1) := by decide +kernel
theorem dX1_digest_100 : decode cX1_digest 100 = .ok (.invokevirtual 152, 3) := by decide +kernel
theorem dX1_digest_103 : decode cX1_digest 103 = .ok (.aload_n 0, 1) := by decide +kernel
theorem dX1_digest_104 : decode cX1_digest 104 = .ok (.aload_n 0, 1) := by decide +kernel
theorem dX1_digest_105 : decode cX1_digest 105 = .ok (.invokevirtual 116, 3) := by decide +kernel
theorem dX1_digest_108 : decode cX1_digest 108 = .ok (.i2l, 1) := by decide +kernel
theorem dX1_digest_109 : decode cX1_digest 109 = .ok (.invokevirtual 152, 3) := by decide +kernel
theorem dX1_digest_112 : decode cX1_digest 112 = .ok (.aload_n 0, 1) := by decide +kernel
theorem dX1_digest_113 : decode cX1_digest 113 = .ok (.aload_n 0, 1) := by decide +kernel
theorem dX1_digest_114 : decode cX1_digest 114 = .ok (.invokevirtual 130, 3) := by decide +kernel
theorem dX1_digest_117 : decode cX1_digest 117 = .ok (.i2l, 1) := by decide +kernel
theorem dX1_digest_118 : decode cX1_digest 118 = .ok (.invokevirtual 152, 3) := by decide +kernel
theorem dX1_digest_121 : decode cX1_digest 121 = .ok (.aload_n 0, 1) := by decide +kernel
theorem dX1_digest_122 : decode cX1_digest 122 = .ok (.getfield 148, 3) := by decide +kernel
theorem dX1_digest_125 : decode cX1_digest 125 = .ok (.lreturn, 1) := by decide +kernel
theorem dJx00060_init_a7421_0 : decode cJx00060_init_a7421 0 = .ok (.aload_n 0, 1) := by decide +kernel
theorem dJx00060_init_a7421_1 : decode cJx00060_init_a7421 1 = .ok (.aload_n 1, 1) := by decide +kernel
theorem dJx00060_init_a7421_2 : decode cJx00060_init_a7421 2 = .ok (.invokespecial 7, 3) := by decide +kernel
theorem dJx00060_init_a7421_5 : decode cJx00060_init_a7421 5 = .ok (.return_, 1) := by decide +kernel
theorem dJ9_abs_0f7a4_0 : decode cJ9_abs_0f7a4 0 = .ok (.iload_n 0, 1) := by decide +kernel
theorem dJ9_abs_0f7a4_1 : decode cJ9_abs_0f7a4 1 = .ok (.ifCond .ge 8, 3) := by decide +kernel
theorem dJ9_abs_0f7a4_4 : decode cJ9_abs_0f7a4 4 = .ok (.iload_n 0, 1) := by decide +kernel
theorem dJ9_abs_0f7a4_5 : decode cJ9_abs_0f7a4 5 = .ok (.ineg, 1) := by decide +kernel
theorem dJ9_abs_0f7a4_6 : decode cJ9_abs_0f7a4 6 = .ok (.goto 4, 3) := by decide +kernel
theorem dJ9_abs_0f7a4_9 : decode cJ9_abs_0f7a4 9 = .ok (.iload_n 0, 1) := by decide +kernel
theorem dJ9_abs_0f7a4_10 : decode cJ9_abs_0f7a4 10 = .ok (.ireturn, 1) := by decide +kernel
theorem dJ9_min_7cf53_0 : decode cJ9_min_7cf53 0 = .ok (.iload_n 0, 1) := by decide +kernel
theorem dJ9_min_7cf53_1 : decode cJ9_min_7cf53 1 = .ok (.iload_n 1, 1) := by decide +kernel
theorem dJ9_min_7cf53_2 : decode cJ9_min_7cf53 2 = .ok (.if_icmp .gt 7, 3) := by decide +kernel
theorem dJ9_min_7cf53_5 : decode cJ9_min_7cf53 5 = .ok (.iload_n 0, 1) := by decide +kernel
theorem dJ9_min_7cf53_6 : decode cJ9_min_7cf53 6 = .ok (.goto 4, 3) := by decide +kernel
theorem dJ9_min_7cf53_9 : decode cJ9_min_7cf53 9 = .ok (.iload_n 1, 1) := by decide +kernel
theorem dJ9_min_7cf53_10 : decode cJ9_min_7cf53 10 = .ok (.ireturn, 1) := by decide +kernel
end
section
set_option maxRecDepth 20000 in
theorem ggL_setArms_X0_setArms : GoodIn wsL_setArms wsX0_setArms := goodIn_ca (goodIn_ca (goodIn_r _ [6, 7, 8, 9, 5, 10, 11, 12, 13, 14, 15, 16, 17, 18, 19, 20, 21, 22, 23, 24, 25, 26, 27, 28, 29, 30, 31, 32, 33, 34, 35, 36, 37, 38, 39, 40, 41, 42, 43, 44] (by decide +kernel) (by decide +kernel)) (goodIn_sub (fun _ h => List.mem_cons_of_mem _ (List.mem_append_right _ h)) (by decide +kernel))) (goodIn_sub (fun _ h => List.mem_cons_of_mem _ (List.mem_append_left _ (List.mem_append_right _ h))) (by decide +kernel))
set_option maxRecDepth 20000 in
theorem gL_setArms_X0_setArms : GoodIn wsL_setArms (wsV RL 7 RX0 yX0_setArms wsX0_setArms) := goodIn_app (goodIn_of _ (by decide +kernel)) ggL_setArms_X0_setArms
theorem dL_setArms_0 : decode cL_setArms 0 = .ok (.aload_n 2, 1) := by decide +kernel
theorem dL_setArms_1 : decode cL_setArms 1 = .ok (.iconst 0, 1) := by decide +kernel
theorem dL_setArms_2 : decode cL_setArms 2 = .ok (.aload_n 0, 1) := by decide +kernel
theorem dL_setArms_3 : decode cL_setArms 3 = .ok (.iload_n 1, 1) := by decide +kernel
theorem dL_setArms_4 : decode cL_setArms 4 = .ok (.invokevirtual 7, 3) := by decide +kernel
theorem dL_setArms_7 : decode cL_setArms 7 = .ok (.i2l, 1) := by decide +kernel
theorem dL_setArms_8 : decode cL_setArms 8 = .ok (.lastore, 1) := by decide +kernel
theorem dL_setArms_9 : decode cL_setArms 9 = .ok (.goto 6, 3) := by decide +kernel
theorem dL_setArms_12 : decode cL_setArms 12 = .ok (.astore_n 3, 1) := by decide +kernel
theorem dL_setArms_13 : decode cL_setArms 13 = .ok (.iconst 1, 1) := by decide +kernel
theorem dL_setArms_14 : decode cL_setArms 14 = .ok (.ireturn, 1) := by decide +kernel
theorem dL_setArms_15 : decode cL_setArms 15 = .ok (.iconst 0, 1) := by decide +kernel
theorem dL_setArms_16 : decode cL_setArms 16 = .ok (.ireturn, 1) := by decide +kernel
set_option maxRecDepth 20000 in
theorem ggL_setInflow_X0_setInflow : GoodIn wsL_setInflow wsX0_setInflow := goodIn_ca (goodIn_ca (goodIn_ca (goodIn_r _ [7, 8, 9, 10, 11, 6, 12, 13, 14, 15, 16, 17, 18, 19, 20, 21, 22, 23, 24, 25, 26, 27, 28, 29, 30, 31, 32, 33, 34, 35, 36, 37, 38, 39, 40, 41, 42, 43, 44, 45] (by decide +kernel) (by decide +kernel)) (goodIn_sub (fun _ h => List.mem_cons_of_mem _ (List.mem_append_left _ (List.mem_append_left _ (List.mem_append_right _ h)))) (by decide +kernel))) (goodIn_sub (fun _ h => List.mem_cons_of_mem _ (List.mem_append_left _ (List.mem_append_right _ h))) (by decide +kernel))) (goodIn_sub (fun _ h => List.mem_cons_of_mem _ (List.mem_append_right _ h)) (by decide +kernel))
set_option maxRecDepth 20000 in
theorem gL_setInflow_X0_setInflow : GoodIn wsL_setInflow (wsV RL 15 RX0 yX0_setInflow wsX0_setInflow) := goodIn_app (goodIn_of _ (by decide +kernel)) ggL_setInflow_X0_setInflow
theorem dL_setInflow_0 : decode cL_setInflow 0 = .ok (.aload_n 3, 1) := by decide +kernel
theorem dL_setInflow_1 : decode cL_setInflow 1 = .ok (.iconst 0, 1) := by decide +kernel
theorem dL_setInflow_2 : decode cL_setInflow 2 = .ok (.aload_n 0, 1) := by decide +kernel
theorem dL_setInflow_3 : decode cL_setInflow 3 = .ok (.iload_n 1, 1) := by decide +kernel
theorem dL_setInflow_4 : decode cL_setInflow 4 = .ok (.iload_n 2, 1) := by decide +kernel
theorem dL_setInflow_5 : decode cL_setInflow 5 = .ok (.invokevirtual 15, 3) := by decide +kernel
theorem dL_setInflow_8 : decode cL_setInflow 8 = .ok (.i2l, 1) := by decide +kernel
theorem dL_setInflow_9 : decode cL_setInflow 9 = .ok (.lastore, 1) := by decide +kernel
theorem dL_setInflow_10 : decode cL_setInflow 10 = .ok (.goto 11, 3) := by decide +kernel
theorem dL_setInflow_13 : decode cL_setInflow 13 = .ok (.astore 4, 2) := by decide +kernel
theorem dL_setInflow_15 : decode cL_setInflow 15 = .ok (.iconst 1, 1) := by decide +kernel
theorem dL_setInflow_16 : decode cL_setInflow 16 = .ok (.ireturn, 1) := by decide +kernel
theorem dL_setInflow_17 : decode cL_setInflow 17 = .ok (.astore 4, 2) := by decide +kernel
theorem dL_setInflow_19 : decode cL_setInflow 19 = .ok (.iconst 2, 1) := by decide +kernel
theorem dL_setInflow_20 : decode cL_setInflow 20 = .ok (.ireturn, 1) := by decide +kernel
theorem dL_setInflow_21 : decode cL_setInflow 21 = .ok (.iconst 0, 1) := by decide +kernel
theorem dL_setInflow_22 : decode cL_setInflow 22 = .ok (.ireturn, 1) := by decide +kernel
set_option maxRecDepth 20000 in
theorem ggL_setOutflow_X0_setOutflow : GoodIn wsL_setOutflow wsX0_setOutflow := goodIn_ca (goodIn_ca (goodIn_ca (goodIn_r _ [7, 8, 9, 10, 11, 6, 12, 13, 14, 15, 16, 17, 18, 19, 20, 21, 22, 23, 24, 25, 26, 27, 28, 29, 30, 31, 32, 33, 34, 35, 36, 37, 38, 39, 40, 41, 42, 43, 44, 45] (by decide +kernel) (by decide +kernel)) (goodIn_sub (fun _ h => List.mem_cons_of_mem _ (List.mem_append_left _ (List.mem_append_left _ (List.mem_append_right _ h)))) (by decide +kernel))) (goodIn_sub (fun _ h => List.mem_cons_of_mem _ (List.mem_append_left _ (List.mem_append_right _ h))) (by decide +kernel))) (goodIn_sub (fun _ h => List.mem_cons_of_mem _ (List.mem_append_right _ h)) (by decide +kernel))
set_option maxRecDepth 20000 in
theorem gL_setOutflow_X0_setOutflow : GoodIn wsL_setOutflow (wsV RL 21 RX0 yX0_setOutflow wsX0_setOutflow) := goodIn_app (goodIn_of _ (by decide +kernel)) ggL_setOutflow_X0_setOutflow
theorem dL_setOutflow_0 : decode cL_setOutflow 0 = .ok (.aload_n 3, 1) := by decide +kernel
theorem dL_setOutflow_1 : decode cL_setOutflow 1 = .ok (.iconst 0, 1) := by decide +kernel
theorem dL_setOutflow_2 : decode cL_setOutflow 2 = .ok (.aload_n 0, 1) := by decide +kernel
theorem dL_setOutflow_3 : decode cL_setOutflow 3 = .ok (.iload_n 1, 1) := by decide +kernel
theorem dL_setOutflow_4 : decode cL_setOutflow 4 = .ok (.iload_n 2, 1) := by decide +kernel
theorem dL_setOutflow_5 : decode cL_setOutflow 5 = .ok (.invokevirtual 21, 3) := by decide +kernel
theorem dL_setOutflow_8 : decode cL_setOutflow 8 = .ok (.i2l, 1) := by decide +kernel
theorem dL_setOutflow_9 : decode cL_setOutflow 9 = .ok (.lastore, 1) := by decide +kernel
theorem dL_setOutflow_10 : decode cL_setOutflow 10 = .ok (.goto 11, 3) := by decide +kernel
theorem dL_setOutflow_13 : decode cL_setOutflow 13 = .ok (.astore 4, 2) := by decide +kernel
theorem dL_setOutflow_15 : decode cL_setOutflow 15 = .ok (.iconst 1, 1) := by decide +kernel
theorem dL_setOutflow_16 : decode cL_setOutflow 16 = .ok (.ireturn, 1) := by decide +kernel
theorem dL_setOutflow_17 : decode cL_setOutflow 17 = .ok (.astore 4, 2) := by decide +kernel
theorem dL_setOutflow_19 : decode cL_setOutflow 19 = .ok (.iconst 2, 1) := by decide +kernel
theorem dL_setOutflow_20 : decode cL_setOutflow 20 = .ok (.ireturn, 1) := by decide +kernel
theorem dL_setOutflow_21 : decode cL_setOutflow 21 = .ok (.iconst 0, 1) := by decide +kernel
theorem dL_setOutflow_22 : decode cL_setOutflow 22 = .ok (.ireturn, 1) := by decide +kernel
set_option maxRecDepth 20000 in
theorem ggL_setWeight_X0_setWeight : GoodIn wsL_setWeight wsX0_setWeight := goodIn_ca (goodIn_ca (goodIn_ca (goodIn_r _ [7, 8, 9, 10, 11, 6, 12, 13, 14, 15, 16, 17, 18, 19, 20, 21, 22, 23, 24, 25, 26, 27, 28, 29, 30, 31, 32, 33, 34, 35, 36, 37, 38, 39, 40, 41, 42, 43, 44, 45] (by decide +kernel) (by decide +kernel)) (goodIn_sub (fun _ h => List.mem_cons_of_mem _ (List.mem_append_left _ (List.mem_append_left _ (List.mem_append_right _ h)))) (by decide +kernel))) (goodIn_sub (fun _ h => List.mem_cons_of_mem _ (List.mem_append_left _ (List.mem_append_right _ h))) (by decide +kernel))) (goodIn_sub (fun _ h => List.mem_cons_of_mem _ (List.mem_append_right _ h)) (by decide +kernel))
set_option maxRecDepth 20000 in
theorem gL_setWeight_X0_setWeight : GoodIn wsL_setWeight (wsV RL 24 RX0 yX0_setWeight wsX0_setWeight) := goodIn_app (goodIn_of _ (by decide +kernel)) ggL_setWeight_X0_setWeight
theorem dL_setWeight_0 : decode cL_setWeight 0 = .ok (.aload 4, 2) := by decide +kernel
theorem dL_setWeight_2 : decode cL_setWeight 2 = .ok (.iconst 0, 1) := by decide +kernel
theorem dL_setWeight_3 : decode cL_setWeight 3 = .ok (.aload_n 0, 1) := by decide +kernel
theorem dL_setWeight_4 : decode cL_setWeight 4 = .ok (.iload_n 1, 1) := by decide +kernel
theorem dL_setWeight_5 : decode cL_setWeight 5 = .ok (.iload_n 2, 1) := by decide +kernel
theorem dL_setWeight_6 : decode cL_setWeight 6 = .ok (.iload_n 3, 1) := by decide +kernel
theorem dL_setWeight_7 : decode cL_setWeight 7 = .ok (.invokevirtual 24, 3) := by decide +kernel
theorem dL_setWeight_10 : decode cL_setWeight 10 = .ok (.i2l, 1) := by decide +kernel
theorem dL_setWeight_11 : decode cL_setWeight 11 = .ok (.lastore, 1) := by decide +kernel
theorem dL_setWeight_12 : decode cL_setWeight 12 = .ok (.goto 11, 3) := by decide +kernel
theorem dL_setWeight_15 : decode cL_setWeight 15 = .ok (.astore 5, 2) := by decide +kernel
theorem dL_setWeight_17 : decode cL_setWeight 17 = .ok (.iconst 1, 1) := by decide +kernel
theorem dL_setWeight_18 : decode cL_setWeight 18 = .ok (.ireturn, 1) := by decide +kernel
theorem dL_setWeight_19 : decode cL_setWeight 19 = .ok (.astore 5, 2) := by decide +kernel
theorem dL_setWeight_21 : decode cL_setWeight 21 = .ok (.iconst 2, 1) := by decide +kernel
theorem dL_setWeight_22 : decode cL_setWeight 22 = .ok (.ireturn, 1) := by decide +kernel
theorem dL_setWeight_23 : decode cL_setWeight 23 = .ok (.iconst 0, 1) := by decide +kernel
theorem dL_setWeight_24 : decode cL_setWeight 24 = .ok (.ireturn, 1) := by decide +kernel
set_option maxRecDepth 20000 in
theorem ggL_scale_X0_scale : GoodIn wsL_scale wsX0_scale := goodIn_ca (goodIn_ca (goodIn_ca (goodIn_r _ [7, 8, 9, 10, 11, 12, 6, 13, 14, 15, 16, 17, 18, 19, 20, 21, 22, 23, 24, 25, 26, 27, 28, 29, 30, 31, 32, 33, 34, 35, 36, 37, 38, 39, 40, 41, 42, 43, 44, 45, 46, 47, 48] (by decide +kernel) (by decide +kernel)) (goodIn_sub (fun _ h => List.mem_cons_of_mem _ (List.mem_append_left _ (List.mem_append_left _ (List.mem_append_right _ h)))) (by decide +kernel))) (goodIn_sub (fun _ h => List.mem_cons_of_mem _ (List.mem_append_left _ (List.mem_append_right _ h))) (by decide +kernel))) (goodIn_sub (fun _ h => List.mem_cons_of_mem _ (List.mem_append_right _ h)) (by decide +kernel))
set_option maxRecDepth 20000 in
theorem gL_scale_X0_scale : GoodIn wsL_scale (wsV RL 28 RX0 yX0_scale wsX0_scale) := goodIn_app (goodIn_of _ (by decide +kernel)) ggL_scale_X0_scale
theorem dL_scale_0 : decode cL_scale 0 = .ok (.aload_n 2, 1) := by decide +kernel
theorem dL_scale_1 : decode cL_scale 1 = .ok (.iconst 0, 1) := by decide +kernel
theorem dL_scale_2 : decode cL_scale 2 = .ok (.aload_n 0, 1) := by decide +kernel
theorem dL_scale_3 : decode cL_scale 3 = .ok (.iload_n 1, 1) := by decide +kernel
theorem dL_scale_4 : decode cL_scale 4 = .ok (.invokevirtual 28, 3) := by decide +kernel
theorem dL_scale_7 : decode cL_scale 7 = .ok (.i2l, 1) := by decide +kernel
theorem dL_scale_8 : decode cL_scale 8 = .ok (.lastore, 1) := by decide +kernel
theorem dL_scale_9 : decode cL_scale 9 = .ok (.goto 9, 3) := by decide +kernel
theorem dL_scale_12 : decode cL_scale 12 = .ok (.astore_n 3, 1) := by decide +kernel
theorem dL_scale_13 : decode cL_scale 13 = .ok (.iconst 1, 1) := by decide +kernel
theorem dL_scale_14 : decode cL_scale 14 = .ok (.ireturn, 1) := by decide +kernel
theorem dL_scale_15 : decode cL_scale 15 = .ok (.astore_n 3, 1) := by decide +kernel
theorem dL_scale_16 : decode cL_scale 16 = .ok (.iconst 2, 1) := by decide +kernel
theorem dL_scale_17 : decode cL_scale 17 = .ok (.ireturn, 1) := by decide +kernel
theorem dL_scale_18 : decode cL_scale 18 = .ok (.iconst 0, 1) := by decide +kernel
theorem dL_scale_19 : decode cL_scale 19 = .ok (.ireturn, 1) := by decide +kernel
set_option maxRecDepth 20000 in
theorem ggL_excess_X0_excess : GoodIn wsL_excess wsX0_excess := goodIn_ca (goodIn_ca (goodIn_r _ [6, 7, 8, 9, 10, 5, 11, 12, 13, 14, 15, 16, 17, 18, 19, 20, 21, 22, 23, 24, 25, 26, 27, 28, 29, 30, 31, 32, 33, 34, 35, 36, 37, 38, 39, 40, 41] (by decide +kernel) (by decide +kernel)) (goodIn_sub (fun _ h => List.mem_cons_of_mem _ (List.mem_append_right _ h)) (by decide +kernel))) (goodIn_sub (fun _ h => List.mem_cons_of_mem _ (List.mem_append_left _ (List.mem_append_right _ h))) (by decide +kernel))
set_option maxRecDepth 20000 in
theorem gL_excess_X0_excess : GoodIn wsL_excess (wsV RL 33 RX0 yX0_excess wsX0_excess) := goodIn_app (goodIn_of _ (by decide +kernel)) ggL_excess_X0_excess
theorem dL_excess_0 : decode cL_excess 0 = .ok (.aload_n 2, 1) := by decide +kernel
theorem dL_excess_1 : decode cL_excess 1 = .ok (.iconst 0, 1) := by decide +kernel
theorem dL_excess_2 : decode cL_excess 2 = .ok (.aload_n 0, 1) := by decide +kernel
theorem dL_excess_3 : decode cL_excess 3 = .ok (.iload_n 1, 1) := by decide +kernel
theorem dL_excess_4 : decode cL_excess 4 = .ok (.invokevirtual 33, 3) := by decide +kernel
theorem dL_excess_7 : decode cL_excess 7 = .ok (.i2l, 1) := by decide +kernel
theorem dL_excess_8 : decode cL_excess 8 = .ok (.lastore, 1) := by decide +kernel
theorem dL_excess_9 : decode cL_excess 9 = .ok (.goto 6, 3) := by decide +kernel
theorem dL_excess_12 : decode cL_excess 12 = .ok (.astore_n 3, 1) := by decide +kernel
theorem dL_excess_13 : decode cL_excess 13 = .ok (.iconst 1, 1) := by decide +kernel
theorem dL_excess_14 : decode cL_excess 14 = .ok (.ireturn, 1) := by decide +kernel
theorem dL_excess_15 : decode cL_excess 15 = .ok (.iconst 0, 1) := by decide +kernel
theorem dL_excess_16 : decode cL_excess 16 = .ok (.ireturn, 1) := by decide +kernel
set_option maxRecDepth 20000 in
theorem ggL_iterate_X0_iterate : GoodIn wsL_iterate wsX0_iterate := goodIn_ca (goodIn_ca (goodIn_r _ [6, 7, 8, 9, 5, 10, 11, 12, 13, 14, 15, 16, 17, 18, 19, 20, 21, 22, 23, 24, 25, 26, 27, 28, 29, 30, 31, 32, 33, 34, 35, 36, 37, 38, 39, 40, 41, 42, 43, 44, 45, 46, 47, 48, 49, 50] (by decide +kernel) (by decide +kernel)) (goodIn_sub (fun _ h => List.mem_cons_of_mem _ (List.mem_append_right _ h)) (by decide +kernel))) (goodIn_sub (fun _ h => List.mem_cons_of_mem _ (List.mem_append_left _ (List.mem_append_right _ h))) (by decide +kernel))
set_option maxRecDepth 20000 in
theorem gL_iterate_X0_iterate : GoodIn wsL_iterate (wsV RL 36 RX0 yX0_iterate wsX0_iterate) := goodIn_app (goodIn_of _ (by decide +kernel)) ggL_iterate_X0_iterate
theorem dL_iterate_0 : decode cL_iterate 0 = .ok (.aload_n 2, 1) := by decide +kernel
theorem dL_iterate_1 : decode cL_iterate 1 = .ok (.iconst 0, 1) := by decide +kernel
theorem dL_iterate_2 : decode cL_iterate 2 = .ok (.aload_n 0, 1) := by decide +kernel
theorem dL_iterate_3 : decode cL_iterate 3 = .ok (.iload_n 1, 1) := by decide +kernel
theorem dL_iterate_4 : decode cL_iterate 4 = .ok (.invokevirtual 36, 3) := by decide +kernel
theorem dL_iterate_7 : decode cL_iterate 7 = .ok (.i2l, 1) := by decide +kernel
theorem dL_iterate_8 : decode cL_iterate 8 = .ok (.lastore, 1) := by decide +kernel
theorem dL_iterate_9 : decode cL_iterate 9 = .ok (.goto 6, 3) := by decide +kernel
theorem dL_iterate_12 : decode cL_iterate 12 = .ok (.astore_n 3, 1) := by decide +kernel
theorem dL_iterate_13 : decode cL_iterate 13 = .ok (.iconst 1, 1) := by decide +kernel
theorem dL_iterate_14 : decode cL_iterate 14 = .ok (.ireturn, 1) := by decide +kernel
theorem dL_iterate_15 : decode cL_iterate 15 = .ok (.iconst 0, 1) := by decide +kernel
theorem dL_iterate_16 : decode cL_iterate 16 = .ok (.ireturn, 1) := by decide +kernel
set_option maxRecDepth 20000 in
theorem ggL_fit_X0_fit : GoodIn wsL_fit wsX0_fit := goodIn_ca (goodIn_ca (goodIn_r _ [6, 7, 8, 9, 10, 5, 11, 12, 13, 14, 15, 16, 17, 18, 19, 20, 21, 22, 23, 24, 25, 26, 27, 28, 29, 30, 31, 32, 33, 34, 35, 36, 37, 38, 39, 40, 41, 42, 43, 44, 45, 46, 47, 48, 49, 50, 51, 52, 53, 54, 55, 56, 57, 58, 59] (by decide +kernel) (by decide +kernel)) (goodIn_sub (fun _ h => List.mem_cons_of_mem _ (List.mem_append_right _ h)) (by decide +kernel))) (goodIn_sub (fun _ h => List.mem_cons_of_mem _ (List.mem_append_left _ (List.mem_append_right _ h))) (by decide +kernel))
set_option maxRecDepth 20000 in
theorem gL_fit_X0_fit : GoodIn wsL_fit (wsV RL 39 RX0 yX0_fit wsX0_fit) := goodIn_app (goodIn_of _ (by decide +kernel)) ggL_fit_X0_fit
theorem dL_fit_0 : decode cL_fit 0 = .ok (.aload_n 3, 1) := by decide +kernel
theorem dL_fit_1 : decode cL_fit 1 = .ok (.iconst 0, 1) := by decide +kernel
theorem dL_fit_2 : decode cL_fit 2 = .ok (.aload_n 0, 1) := by decide +kernel
theorem dL_fit_3 : decode cL_fit 3 = .ok (.iload_n 1, 1) := by decide +kernel
theorem dL_fit_4 : decode cL_fit 4 = .ok (.iload_n 2, 1) := by decide +kernel
theorem dL_fit_5 : decode cL_fit 5 = .ok (.invokevirtual 39, 3) := by decide +kernel
theorem dL_fit_8 : decode cL_fit 8 = .ok (.i2l, 1) := by decide +kernel
theorem dL_fit_9 : decode cL_fit 9 = .ok (.lastore, 1) := by decide +kernel
theorem dL_fit_10 : decode cL_fit 10 = .ok (.goto 7, 3) := by decide +kernel
theorem dL_fit_13 : decode cL_fit 13 = .ok (.astore 4, 2) := by decide +kernel
theorem dL_fit_15 : decode cL_fit 15 = .ok (.iconst 1, 1) := by decide +kernel
theorem dL_fit_16 : decode cL_fit 16 = .ok (.ireturn, 1) := by decide +kernel
theorem dL_fit_17 : decode cL_fit 17 = .ok (.iconst 0, 1) := by decide +kernel
theorem dL_fit_18 : decode cL_fit 18 = .ok (.ireturn, 1) := by decide +kernel
set_option maxRecDepth 20000 in
theorem ggL_estimate_X0_estimate : GoodIn wsL_estimate wsX0_estimate := goodIn_ca (goodIn_ca (goodIn_r _ [6, 7, 8, 9, 10, 5, 11, 12, 13, 14, 15, 16, 17, 18, 19, 20, 21, 22, 23, 24, 25, 26, 27, 28] (by decide +kernel) (by decide +kernel)) (goodIn_sub (fun _ h => List.mem_cons_of_mem _ (List.mem_append_left _ (List.mem_append_right _ h))) (by decide +kernel))) (goodIn_sub (fun _ h => List.mem_cons_of_mem _ (List.mem_append_right _ h)) (by decide +kernel))
set_option maxRecDepth 20000 in
theorem gL_estimate_X0_estimate : GoodIn wsL_estimate (wsV RL 42 RX0 yX0_estimate wsX0_estimate) := goodIn_app (goodIn_of _ (by decide +kernel)) ggL_estimate_X0_estimate
theorem dL_estimate_0 : decode cL_estimate 0 = .ok (.aload_n 3, 1) := by decide +kernel
theorem dL_estimate_1 : decode cL_estimate 1 = .ok (.iconst 0, 1) := by decide +kernel
theorem dL_estimate_2 : decode cL_estimate 2 = .ok (.aload_n 0, 1) := by decide +kernel
theorem dL_estimate_3 : decode cL_estimate 3 = .ok (.iload_n 1, 1) := by decide +kernel
theorem dL_estimate_4 : decode cL_estimate 4 = .ok (.iload_n 2, 1) := by decide +kernel
theorem dL_estimate_5 : decode cL_estimate 5 = .ok (.invokevirtual 42, 3) := by decide +kernel
theorem dL_estimate_8 : decode cL_estimate 8 = .ok (.dastore, 1) := by decide +kernel
theorem dL_estimate_9 : decode cL_estimate 9 = .ok (.goto 7, 3) := by decide +kernel
theorem dL_estimate_12 : decode cL_estimate 12 = .ok (.astore 4, 2) := by decide +kernel
theorem dL_estimate_14 : decode cL_estimate 14 = .ok (.iconst 1, 1) := by decide +kernel
theorem dL_estimate_15 : decode cL_estimate 15 = .ok (.ireturn, 1) := by decide +kernel
theorem dL_estimate_16 : decode cL_estimate 16 = .ok (.iconst 0, 1) := by decide +kernel
theorem dL_estimate_17 : decode cL_estimate 17 = .ok (.ireturn, 1) := by decide +kernel
set_option maxRecDepth 20000 in
theorem ggL_sum_X0_sum : GoodIn wsL_sum wsX0_sum := goodIn_ca (goodIn_ca (goodIn_r _ [6, 7, 8, 9, 5, 10, 11, 12, 13, 14, 15, 16, 17, 18, 19, 20, 21, 22, 23, 24, 25, 26, 27, 28, 29, 30, 31, 32, 33, 34, 35, 36] (by decide +kernel) (by decide +kernel)) (goodIn_sub (fun _ h => List.mem_cons_of_mem _ (List.mem_append_right _ h)) (by decide +kernel))) (goodIn_sub (fun _ h => List.mem_cons_of_mem _ (List.mem_append_left _ (List.mem_append_right _ h))) (by decide +kernel))
set_option maxRecDepth 20000 in
theorem gL_sum_X0_sum : GoodIn wsL_sum (wsV RL 46 RX0 yX0_sum wsX0_sum) := goodIn_app (goodIn_of _ (by decide +kernel)) ggL_sum_X0_sum
theorem dL_sum_0 : decode cL_sum 0 = .ok (.aload_n 3, 1) := by decide +kernel
theorem dL_sum_1 : decode cL_sum 1 = .ok (.iconst 0, 1) := by decide +kernel
theorem dL_sum_2 : decode cL_sum 2 = .ok (.aload_n 0, 1) := by decide +kernel
theorem dL_sum_3 : decode cL_sum 3 = .ok (.iload_n 1, 1) := by decide +kernel
theorem dL_sum_4 : decode cL_sum 4 = .ok (.iload_n 2, 1) := by decide +kernel
theorem dL_sum_5 : decode cL_sum 5 = .ok (.invokevirtual 46, 3) := by decide +kernel
theorem dL_sum_8 : decode cL_sum 8 = .ok (.dastore, 1) := by decide +kernel
theorem dL_sum_9 : decode cL_sum 9 = .ok (.goto 7, 3) := by decide +kernel
theorem dL_sum_12 : decode cL_sum 12 = .ok (.astore 4, 2) := by decide +kernel
theorem dL_sum_14 : decode cL_sum 14 = .ok (.iconst 1, 1) := by decide +kernel
theorem dL_sum_15 : decode cL_sum 15 = .ok (.ireturn, 1) := by decide +kernel
theorem dL_sum_16 : decode cL_sum 16 = .ok (.iconst 0, 1) := by decide +kernel
theorem dL_sum_17 : decode cL_sum 17 = .ok (.ireturn, 1) := by decide +kernel
set_option maxRecDepth 20000 in
theorem ggL_share_X0_share : GoodIn wsL_share wsX0_share := goodIn_ca (goodIn_ca (goodIn_r _ [6, 7, 8, 9, 10, 5, 11, 12, 13, 14, 15, 16, 17, 18, 19, 20, 21, 22, 23, 24, 25, 26, 27, 28, 29, 30, 31, 32] (by decide +kernel) (by decide +kernel)) (goodIn_sub (fun _ h => List.mem_cons_of_mem _ (List.mem_append_left _ (List.mem_append_right _ h))) (by decide +kernel))) (goodIn_sub (fun _ h => List.mem_cons_of_mem _ (List.mem_append_right _ h)) (by decide +kernel))
set_option maxRecDepth 20000 in
theorem gL_share_X0_share : GoodIn wsL_share (wsV RL 50 RX0 yX0_share wsX0_share) := goodIn_app (goodIn_of _ (by decide +kernel)) ggL_share_X0_share
theorem dL_share_0 : decode cL_share 0 = .ok (.aload_n 3, 1) := by decide +kernel
theorem dL_share_1 : decode cL_share 1 = .ok (.iconst 0, 1) := by decide +kernel
theorem dL_share_2 : decode cL_share 2 = .ok (.aload_n 0, 1) := by decide +kernel
theorem dL_share_3 : decode cL_share 3 = .ok (.iload_n 1, 1) := by decide +kernel
theorem dL_share_4 : decode cL_share 4 = .ok (.iload_n 2, 1) := by decide +kernel
theorem dL_share_5 : decode cL_share 5 = .ok (.invokevirtual 50, 3) := by decide +kernel
theorem dL_share_8 : decode cL_share 8 = .ok (.dastore, 1) := by decide +kernel
theorem dL_share_9 : decode cL_share 9 = .ok (.goto 7, 3) := by decide +kernel
theorem dL_share_12 : decode cL_share 12 = .ok (.astore 4, 2) := by decide +kernel
theorem dL_share_14 : decode cL_share 14 = .ok (.iconst 1, 1) := by decide +kernel
theorem dL_share_15 : decode cL_share 15 = .ok (.ireturn, 1) := by decide +kernel
theorem dL_share_16 : decode cL_share 16 = .ok (.iconst 0, 1) := by decide +kernel
theorem dL_share_17 : decode cL_share 17 = .ok (.ireturn, 1) := by decide +kernel
set_option maxRecDepth 20000 in
theorem ggL_crossRatio_X0_crossRatio : GoodIn wsL_crossRatio wsX0_crossRatio := goodIn_ca (goodIn_ca (goodIn_ca (goodIn_r _ [7, 8, 9, 10, 11, 12, 13, 6, 14, 15, 16, 17, 18, 19, 20, 21, 22, 23, 24, 25, 26, 27, 28, 29, 30, 31] (by decide +kernel) (by decide +kernel)) (goodIn_sub (fun _ h => List.mem_cons_of_mem _ (List.mem_append_left _ (List.mem_append_left _ (List.mem_append_right _ h)))) (by decide +kernel))) (goodIn_sub (fun _ h => List.mem_cons_of_mem _ (List.mem_append_left _ (List.mem_append_right _ h))) (by decide +kernel))) (goodIn_sub (fun _ h => List.mem_cons_of_mem _ (List.mem_append_right _ h)) (by decide +kernel))
set_option maxRecDepth 20000 in
theorem gL_crossRatio_X0_crossRatio : GoodIn wsL_crossRatio (wsV RL 53 RX0 yX0_crossRatio wsX0_crossRatio) := goodIn_app (goodIn_of _ (by decide +kernel)) ggL_crossRatio_X0_crossRatio
theorem dL_crossRatio_0 : decode cL_crossRatio 0 = .ok (.aload 5, 2) := by decide +kernel
theorem dL_crossRatio_2 : decode cL_crossRatio 2 = .ok (.iconst 0, 1) := by decide +kernel
theorem dL_crossRatio_3 : decode cL_crossRatio 3 = .ok (.aload_n 0, 1) := by decide +kernel
theorem dL_crossRatio_4 : decode cL_crossRatio 4 = .ok (.iload_n 1, 1) := by decide +kernel
theorem dL_crossRatio_5 : decode cL_crossRatio 5 = .ok (.iload_n 2, 1) := by decide +kernel
theorem dL_crossRatio_6 : decode cL_crossRatio 6 = .ok (.iload_n 3, 1) := by decide +kernel
theorem dL_crossRatio_7 : decode cL_crossRatio 7 = .ok (.iload 4, 2) := by decide +kernel
theorem dL_crossRatio_9 : decode cL_crossRatio 9 = .ok (.invokevirtual 53, 3) := by decide +kernel
theorem dL_crossRatio_12 : decode cL_crossRatio 12 = .ok (.dastore, 1) := by decide +kernel
theorem dL_crossRatio_13 : decode cL_crossRatio 13 = .ok (.goto 11, 3) := by decide +kernel
theorem dL_crossRatio_16 : decode cL_crossRatio 16 = .ok (.astore 6, 2) := by decide +kernel
theorem dL_crossRatio_18 : decode cL_crossRatio 18 = .ok (.iconst 1, 1) := by decide +kernel
theorem dL_crossRatio_19 : decode cL_crossRatio 19 = .ok (.ireturn, 1) := by decide +kernel
theorem dL_crossRatio_20 : decode cL_crossRatio 20 = .ok (.astore 6, 2) := by decide +kernel
theorem dL_crossRatio_22 : decode cL_crossRatio 22 = .ok (.iconst 2, 1) := by decide +kernel
theorem dL_crossRatio_23 : decode cL_crossRatio 23 = .ok (.ireturn, 1) := by decide +kernel
theorem dL_crossRatio_24 : decode cL_crossRatio 24 = .ok (.iconst 0, 1) := by decide +kernel
theorem dL_crossRatio_25 : decode cL_crossRatio 25 = .ok (.ireturn, 1) := by decide +kernel
set_option maxRecDepth 20000 in
theorem ggL_rounded_X0_rounded : GoodIn wsL_rounded wsX0_rounded := goodIn_ca (goodIn_ca (goodIn_r _ [6, 7, 8, 9, 10, 5, 11, 12, 13, 14, 15, 16, 17, 18, 19, 20, 21, 22, 23, 24, 25, 26, 27, 28, 29, 30, 31, 32, 33, 34, 35, 36, 37, 38, 39, 40, 41, 42, 43, 44, 45, 46, 47, 48, 49, 50, 51, 52, 53, 54, 55, 56, 57, 58, 59, 60] (by decide +kernel) (by decide +kernel)) (goodIn_sub (fun _ h => List.mem_cons_of_mem _ (List.mem_append_left _ (List.mem_append_right _ h))) (by decide +kernel))) (goodIn_sub (fun _ h => List.mem_cons_of_mem _ (List.mem_append_right _ h)) (by decide +kernel))
set_option maxRecDepth 20000 in
theorem gL_rounded_X0_rounded : GoodIn wsL_rounded (wsV RL 59 RX0 yX0_rounded wsX0_rounded) := goodIn_app (goodIn_of _ (by decide +kernel)) ggL_rounded_X0_rounded
theorem dL_rounded_0 : decode cL_rounded 0 = .ok (.aload_n 3, 1) := by decide +kernel
theorem dL_rounded_1 : decode cL_rounded 1 = .ok (.iconst 0, 1) := by decide +kernel
theorem dL_rounded_2 : decode cL_rounded 2 = .ok (.aload_n 0, 1) := by decide +kernel
theorem dL_rounded_3 : decode cL_rounded 3 = .ok (.iload_n 1, 1) := by decide +kernel
theorem dL_rounded_4 : decode cL_rounded 4 = .ok (.iload_n 2, 1) := by decide +kernel
theorem dL_rounded_5 : decode cL_rounded 5 = .ok (.invokevirtual 59, 3) := by decide +kernel
theorem dL_rounded_8 : decode cL_rounded 8 = .ok (.i2l, 1) := by decide +kernel
theorem dL_rounded_9 : decode cL_rounded 9 = .ok (.lastore, 1) := by decide +kernel
theorem dL_rounded_10 : decode cL_rounded 10 = .ok (.goto 7, 3) := by decide +kernel
theorem dL_rounded_13 : decode cL_rounded 13 = .ok (.astore 4, 2) := by decide +kernel
theorem dL_rounded_15 : decode cL_rounded 15 = .ok (.iconst 1, 1) := by decide +kernel
theorem dL_rounded_16 : decode cL_rounded 16 = .ok (.ireturn, 1) := by decide +kernel
theorem dL_rounded_17 : decode cL_rounded 17 = .ok (.iconst 0, 1) := by decide +kernel
theorem dL_rounded_18 : decode cL_rounded 18 = .ok (.ireturn, 1) := by decide +kernel
set_option maxRecDepth 20000 in
theorem ggL_possible_X0_possible : GoodIn wsL_possible wsX0_possible := goodIn_ca (goodIn_ca (goodIn_r _ [6, 7, 8, 9, 10, 5, 11, 12, 13, 14, 15, 16, 17, 18, 19, 20, 21, 22, 23, 24, 25, 26, 27, 28, 29, 30, 31, 32, 33, 34, 35, 36, 37, 38, 39, 40, 41, 42, 43, 44, 45, 46, 47, 48, 49, 50, 51, 52, 53, 54, 55, 56, 57, 58, 59, 60, 61, 62, 63, 64, 65, 66, 67, 68, 69, 70, 71, 72, 73, 74, 75, 76, 77, 78, 79, 80, 81, 82, 83] (by decide +kernel) (by decide +kernel)) (goodIn_sub (fun _ h => List.mem_cons_of_mem _ (List.mem_append_left _ (List.mem_append_right _ h))) (by decide +kernel))) (goodIn_sub (fun _ h => List.mem_cons_of_mem _ (List.mem_append_right _ h)) (by decide +kernel))
set_option maxRecDepth 20000 in
theorem gL_possible_X0_possible : GoodIn wsL_possible (wsV RL 62 RX0 yX0_possible wsX0_possible) := goodIn_app (goodIn_of _ (by decide +kernel)) ggL_possible_X0_possible
theorem dL_possible_0 : decode cL_possible 0 = .ok (.aload_n 3, 1) := by decide +kernel
theorem dL_possible_1 : decode cL_possible 1 = .ok (.iconst 0, 1) := by decide +kernel
theorem dL_possible_2 : decode cL_possible 2 = .ok (.aload_n 0, 1) := by decide +kernel
theorem dL_possible_3 : decode cL_possible 3 = .ok (.iload_n 1, 1) := by decide +kernel
theorem dL_possible_4 : decode cL_possible 4 = .ok (.iload_n 2, 1) := by decide +kernel
theorem dL_possible_5 : decode cL_possible 5 = .ok (.invokevirtual 62, 3) := by decide +kernel
theorem dL_possible_8 : decode cL_possible 8 = .ok (.i2l, 1) := by decide +kernel
theorem dL_possible_9 : decode cL_possible 9 = .ok (.lastore, 1) := by decide +kernel
theorem dL_possible_10 : decode cL_possible 10 = .ok (.goto 7, 3) := by decide +kernel
theorem dL_possible_13 : decode cL_possible 13 = .ok (.astore 4, 2) := by decide +kernel
theorem dL_possible_15 : decode cL_possible 15 = .ok (.iconst 1, 1) := by decide +kernel
theorem dL_possible_16 : decode cL_possible 16 = .ok (.ireturn, 1) := by decide +kernel
theorem dL_possible_17 : decode cL_possible 17 = .ok (.iconst 0, 1) := by decide +kernel
theorem dL_possible_18 : decode cL_possible 18 = .ok (.ireturn, 1) := by decide +kernel
end
section
set_option maxRecDepth 20000 in
theorem ggL_law_X0_init : GoodIn wsL_law wsX0_init := goodIn_ca (goodIn_r _ [10, 11, 12, 13, 14, 15, 16, 17, 7, 18, 19, 20, 21, 22, 23, 24, 25, 26, 2, 27, 28, 29, 30, 31, 32, 33, 34, 35, 36, 37, 38, 39, 40, 550, 551, 552, 553, 554, 555, 556, 557, 558, 559, 560] (by decide +kernel) (by decide +kernel)) (goodIn_sub (fun _ h => List.mem_append_left _ (List.mem_append_left _ (List.mem_append_left _ (List.mem_append_left _ (List.mem_append_right _ h))))) (by decide +kernel))
set_option maxRecDepth 20000 in
theorem gL_law_X0_init : GoodIn wsL_law (wsX0_init) := ggL_law_X0_init
set_option maxRecDepth 20000 in
theorem ggL_law_X1_init : GoodIn wsL_law wsX1_init := goodIn_ca (goodIn_r _ [43, 44, 12, 13, 45, 14, 46, 47, 48, 7, 49, 50, 51, 52, 53, 54, 55, 56, 57, 5, 58, 59, 60, 61, 62, 63, 561, 562, 563, 564, 565, 566, 567, 568, 569, 570, 571, 572, 573] (by decide +kernel) (by decide +kernel)) (goodIn_sub (fun _ h => List.mem_append_left _ (List.mem_append_left _ (List.mem_append_left _ (List.mem_append_left _ (List.mem_append_right _ h))))) (by decide +kernel))
set_option maxRecDepth 20000 in
theorem gL_law_X1_init : GoodIn wsL_law (wsX1_init) := ggL_law_X1_init
set_option maxRecDepth 20000 in
theorem ggL_law_L_setArms : GoodIn wsL_law wsL_setArms := goodIn_ca (goodIn_ca (goodIn_r _ [67, 68, 69, 70, 71, 2, 72, 28, 73, 74, 75, 76, 77, 24, 25, 26, 27, 15, 16, 19, 29, 30, 31, 32, 17, 33, 34, 35, 36, 37, 38, 39, 18, 40, 550, 551, 552, 553, 554, 555, 556, 557, 558, 559, 560] (by decide +kernel) (by decide +kernel)) (goodIn_sub (fun _ h => List.mem_append_left _ (List.mem_append_left _ (List.mem_append_left _ (List.mem_append_left _ (List.mem_append_right _ h))))) (by decide +kernel))) (goodIn_sub (fun _ h => List.mem_append_left _ (List.mem_append_left _ (List.mem_append_left _ (List.mem_append_right _ h)))) (by decide +kernel))
set_option maxRecDepth 20000 in
theorem gL_law_L_setArms : GoodIn wsL_law (va_wsS RL 69 yL_setArms wsL_setArms) := goodIn_app (goodIn_of _ (by decide +kernel)) ggL_law_L_setArms
set_option maxRecDepth 20000 in
theorem ggL_law_X1_setArms : GoodIn wsL_law wsX1_setArms := goodIn_ca (goodIn_r _ [81, 82, 45, 83, 84, 5, 85, 55, 56, 57, 58, 48, 46, 47, 59, 60, 61, 62, 49, 63, 561, 562, 563, 564, 565, 566, 567, 568, 569, 570, 571, 572, 573] (by decide +kernel) (by decide +kernel)) (goodIn_sub (fun _ h => List.mem_append_left _ (List.mem_append_left _ (List.mem_append_left _ (List.mem_append_left _ (List.mem_append_right _ h))))) (by decide +kernel))
set_option maxRecDepth 20000 in
theorem gL_law_X1_setArms : GoodIn wsL_law (wsV RL 74 RX1 yX1_setArms wsX1_setArms) := goodIn_app (goodIn_of _ (by decide +kernel)) ggL_law_X1_setArms
set_option maxRecDepth 20000 in
theorem ggL_law_X1_thrown : GoodIn wsL_law wsX1_thrown := goodIn_r _ [89, 82, 561, 562, 563, 564, 565, 566, 567, 568, 569, 570, 571, 572, 573] (by decide +kernel) (by decide +kernel)
set_option maxRecDepth 20000 in
theorem gL_law_X1_thrown : GoodIn wsL_law (wsV RL 75 RX1 yX1_thrown wsX1_thrown) := goodIn_app (goodIn_of _ (by decide +kernel)) ggL_law_X1_thrown
set_option maxRecDepth 20000 in
theorem ggL_law_X0_arms : GoodIn wsL_law wsX0_arms := goodIn_r _ [93, 28, 550, 551, 552, 553, 554, 555, 556, 557, 558, 559, 560] (by decide +kernel) (by decide +kernel)
set_option maxRecDepth 20000 in
theorem gL_law_X0_arms : GoodIn wsL_law (wsV RL 79 RX0 yX0_arms wsX0_arms) := goodIn_app (goodIn_of _ (by decide +kernel)) ggL_law_X0_arms
set_option maxRecDepth 20000 in
theorem ggL_law_X1_arms : GoodIn wsL_law wsX1_arms := goodIn_r _ [97, 82, 45, 561, 562, 563, 564, 565, 566, 567, 568, 569, 570, 571, 572, 573] (by decide +kernel) (by decide +kernel)
set_option maxRecDepth 20000 in
theorem gL_law_X1_arms : GoodIn wsL_law (wsV RL 82 RX1 yX1_arms wsX1_arms) := goodIn_app (goodIn_of _ (by decide +kernel)) ggL_law_X1_arms
set_option maxRecDepth 20000 in
theorem ggL_law_L_setInflow : GoodIn wsL_law wsL_setInflow := goodIn_ca (goodIn_ca (goodIn_ca (goodIn_r _ [100, 101, 68, 102, 103, 104, 2, 105, 15, 106, 107, 108, 109, 110, 111, 112, 113, 114, 115, 28, 73, 74, 75, 76, 77, 36, 37, 38, 39, 18, 17, 40, 33, 34, 35, 550, 551, 552, 553, 554, 555, 556, 557, 558, 559, 560] (by decide +kernel) (by decide +kernel)) (goodIn_sub (fun _ h => List.mem_append_left _ (List.mem_append_left _ (List.mem_append_left _ (List.mem_append_left _ (List.mem_append_right _ h))))) (by decide +kernel))) (goodIn_sub (fun _ h => List.mem_append_left _ (List.mem_append_left _ (List.mem_append_right _ h))) (by decide +kernel))) (goodIn_sub (fun _ h => List.mem_append_left _ (List.mem_append_left _ (List.mem_append_left _ (List.mem_append_right _ h)))) (by decide +kernel))
set_option maxRecDepth 20000 in
theorem gL_law_L_setInflow : GoodIn wsL_law (va_wsS RL 83 yL_setInflow wsL_setInflow) := goodIn_app (goodIn_of _ (by decide +kernel)) ggL_law_L_setInflow
set_option maxRecDepth 20000 in
theorem ggL_law_X1_setInflow : GoodIn wsL_law wsX1_setInflow := goodIn_ca (goodIn_r _ [119, 82, 46, 120, 121, 122, 5, 123, 45, 83, 84, 85, 59, 60, 61, 62, 49, 48, 63, 561, 562, 563, 564, 565, 566, 567, 568, 569, 570, 571, 572, 573] (by decide +kernel) (by decide +kernel)) (goodIn_sub (fun _ h => List.mem_append_left _ (List.mem_append_left _ (List.mem_append_left _ (List.mem_append_left _ (List.mem_append_right _ h))))) (by decide +kernel))
set_option maxRecDepth 20000 in
theorem gL_law_X1_setInflow : GoodIn wsL_law (wsV RL 86 RX1 yX1_setInflow wsX1_setInflow) := goodIn_app (goodIn_of _ (by decide +kernel)) ggL_law_X1_setInflow
set_option maxRecDepth 20000 in
theorem ggL_law_L_setOutflow : GoodIn wsL_law wsL_setOutflow := goodIn_ca (goodIn_ca (goodIn_ca (goodIn_r _ [126, 101, 68, 127, 128, 129, 2, 130, 16, 106, 107, 108, 109, 110, 111, 112, 113, 114, 115, 28, 73, 74, 75, 76, 77, 36, 37, 38, 39, 18, 17, 40, 33, 34, 35, 550, 551, 552, 553, 554, 555, 556, 557, 558, 559, 560] (by decide +kernel) (by decide +kernel)) (goodIn_sub (fun _ h => List.mem_append_left _ (List.mem_append_left _ (List.mem_append_left _ (List.mem_append_left _ (List.mem_append_right _ h))))) (by decide +kernel))) (goodIn_sub (fun _ h => List.mem_append_left _ (List.mem_append_left _ (List.mem_append_right _ h))) (by decide +kernel))) (goodIn_sub (fun _ h => List.mem_append_left _ (List.mem_append_left _ (List.mem_append_left _ (List.mem_append_right _ h)))) (by decide +kernel))
set_option maxRecDepth 20000 in
theorem gL_law_L_setOutflow : GoodIn wsL_law (va_wsS RL 87 yL_setOutflow wsL_setOutflow) := goodIn_app (goodIn_of _ (by decide +kernel)) ggL_law_L_setOutflow
set_option maxRecDepth 20000 in
theorem ggL_law_X1_setOutflow : GoodIn wsL_law wsX1_setOutflow := goodIn_ca (goodIn_r _ [134, 82, 47, 120, 121, 122, 5, 123, 45, 83, 84, 85, 59, 60, 61, 62, 49, 48, 63, 561, 562, 563, 564, 565, 566, 567, 568, 569, 570, 571, 572, 573] (by decide +kernel) (by decide +kernel)) (goodIn_sub (fun _ h => List.mem_append_left _ (List.mem_append_left _ (List.mem_append_left _ (List.mem_append_left _ (List.mem_append_right _ h))))) (by decide +kernel))
set_option maxRecDepth 20000 in
theorem gL_law_X1_setOutflow : GoodIn wsL_law (wsV RL 89 RX1 yX1_setOutflow wsX1_setOutflow) := goodIn_app (goodIn_of _ (by decide +kernel)) ggL_law_X1_setOutflow
set_option maxRecDepth 20000 in
theorem ggL_law_L_setWeight : GoodIn wsL_law wsL_setWeight := goodIn_ca (goodIn_ca (goodIn_ca (goodIn_r _ [137, 101, 68, 138, 139, 140, 2, 141, 17, 110, 111, 112, 113, 114, 115, 28, 73, 74, 75, 76, 77, 33, 34, 35, 29, 30, 31, 32, 19, 36, 37, 38, 39, 18, 40, 550, 551, 552, 553, 554, 555, 556, 557, 558, 559, 560] (by decide +kernel) (by decide +kernel)) (goodIn_sub (fun _ h => List.mem_append_left _ (List.mem_append_left _ (List.mem_append_left _ (List.mem_append_left _ (List.mem_append_right _ h))))) (by decide +kernel))) (goodIn_sub (fun _ h => List.mem_append_left _ (List.mem_append_left _ (List.mem_append_right _ h))) (by decide +kernel))) (goodIn_sub (fun _ h => List.mem_append_left _ (List.mem_append_left _ (List.mem_append_left _ (List.mem_append_right _ h)))) (by decide +kernel))
set_option maxRecDepth 20000 in
theorem gL_law_L_setWeight : GoodIn wsL_law (va_wsS RL 90 yL_setWeight wsL_setWeight) := goodIn_app (goodIn_of _ (by decide +kernel)) ggL_law_L_setWeight
set_option maxRecDepth 20000 in
theorem ggL_law_X1_setWeight : GoodIn wsL_law wsX1_setWeight := goodIn_ca (goodIn_r _ [145, 82, 48, 120, 121, 122, 5, 123, 45, 83, 84, 85, 59, 60, 61, 62, 49, 63, 561, 562, 563, 564, 565, 566, 567, 568, 569, 570, 571, 572, 573] (by decide +kernel) (by decide +kernel)) (goodIn_sub (fun _ h => List.mem_append_left _ (List.mem_append_left _ (List.mem_append_left _ (List.mem_append_left _ (List.mem_append_right _ h))))) (by decide +kernel))
set_option maxRecDepth 20000 in
theorem gL_law_X1_setWeight : GoodIn wsL_law (wsV RL 93 RX1 yX1_setWeight wsX1_setWeight) := goodIn_app (goodIn_of _ (by decide +kernel)) ggL_law_X1_setWeight
set_option maxRecDepth 20000 in
theorem ggL_law_L_scale : GoodIn wsL_law wsL_scale := goodIn_ca (goodIn_ca (goodIn_ca (goodIn_r _ [148, 68, 149, 150, 151, 152, 2, 153, 28, 15, 16, 73, 74, 75, 76, 77, 154, 155, 156, 157, 158, 159, 160, 161, 36, 37, 38, 39, 18, 17, 40, 33, 34, 35, 162, 163, 164, 165, 550, 551, 552, 553, 554, 555, 556, 557, 558, 559, 560] (by decide +kernel) (by decide +kernel)) (goodIn_sub (fun _ h => List.mem_append_left _ (List.mem_append_left _ (List.mem_append_left _ (List.mem_append_left _ (List.mem_append_right _ h))))) (by decide +kernel))) (goodIn_sub (fun _ h => List.mem_append_left _ (List.mem_append_left _ (List.mem_append_left _ (List.mem_append_right _ h)))) (by decide +kernel))) (goodIn_sub (fun _ h => List.mem_append_left _ (List.mem_append_right _ h)) (by decide +kernel))
set_option maxRecDepth 20000 in
theorem gL_law_L_scale : GoodIn wsL_law (va_wsS RL 94 yL_scale wsL_scale) := goodIn_app (goodIn_of _ (by decide +kernel)) ggL_law_L_scale
set_option maxRecDepth 20000 in
theorem ggL_law_X1_scale : GoodIn wsL_law wsX1_scale := goodIn_ca (goodIn_r _ [169, 82, 45, 46, 47, 83, 84, 5, 85, 170, 171, 172, 173, 174, 175, 176, 59, 60, 61, 62, 49, 48, 63, 561, 562, 563, 564, 565, 566, 567, 568, 569, 570, 571, 572, 573] (by decide +kernel) (by decide +kernel)) (goodIn_sub (fun _ h => List.mem_append_left _ (List.mem_append_left _ (List.mem_append_left _ (List.mem_append_left _ (List.mem_append_right _ h))))) (by decide +kernel))
set_option maxRecDepth 20000 in
theorem gL_law_X1_scale : GoodIn wsL_law (wsV RL 96 RX1 yX1_scale wsX1_scale) := goodIn_app (goodIn_of _ (by decide +kernel)) ggL_law_X1_scale
set_option maxRecDepth 20000 in
theorem ggL_law_X0_imbalance : GoodIn wsL_law wsX0_imbalance := goodIn_ca (goodIn_r _ [180, 15, 16, 162, 163, 164, 2, 165, 28, 550, 551, 552, 553, 554, 555, 556, 557, 558, 559, 560] (by decide +kernel) (by decide +kernel)) (goodIn_sub (fun _ h => List.mem_append_left _ (List.mem_append_left _ (List.mem_append_left _ (List.mem_append_left _ (List.mem_append_right _ h))))) (by decide +kernel))
set_option maxRecDepth 20000 in
theorem gL_law_X0_imbalance : GoodIn wsL_law (wsV RL 97 RX0 yX0_imbalance wsX0_imbalance) := goodIn_app (goodIn_of _ (by decide +kernel)) ggL_law_X0_imbalance
set_option maxRecDepth 20000 in
theorem ggL_law_X1_imbalance : GoodIn wsL_law wsX1_imbalance := goodIn_ca (goodIn_r _ [184, 82, 185, 186, 187, 5, 188, 45, 46, 47, 561, 562, 563, 564, 565, 566, 567, 568, 569, 570, 571, 572, 573] (by decide +kernel) (by decide +kernel)) (goodIn_sub (fun _ h => List.mem_append_left _ (List.mem_append_left _ (List.mem_append_left _ (List.mem_append_left _ (List.mem_append_right _ h))))) (by decide +kernel))
set_option maxRecDepth 20000 in
theorem gL_law_X1_imbalance : GoodIn wsL_law (wsV RL 100 RX1 yX1_imbalance wsX1_imbalance) := goodIn_app (goodIn_of _ (by decide +kernel)) ggL_law_X1_imbalance
set_option maxRecDepth 20000 in
theorem ggL_law_X0_isPossible : GoodIn wsL_law wsX0_isPossible := goodIn_ca (goodIn_r _ [192, 193, 178, 179, 2, 180, 15, 16, 162, 163, 164, 165, 28, 194, 195, 196, 197, 198, 199, 200, 201, 202, 203, 204, 205, 206, 207, 208, 209, 19, 210, 211, 212, 550, 551, 552, 553, 554, 555, 556, 557, 558, 559, 560] (by decide +kernel) (by decide +kernel)) (goodIn_sub (fun _ h => List.mem_append_left _ (List.mem_append_left _ (List.mem_append_left _ (List.mem_append_left _ (List.mem_append_right _ h))))) (by decide +kernel))
set_option maxRecDepth 20000 in
theorem gL_law_X0_isPossible : GoodIn wsL_law (wsV RL 101 RX0 yX0_isPossible wsX0_isPossible) := goodIn_app (goodIn_of _ (by decide +kernel)) ggL_law_X0_isPossible
set_option maxRecDepth 20000 in
theorem ggL_law_X1_isPossible : GoodIn wsL_law wsX1_isPossible := goodIn_ca (goodIn_r _ [216, 82, 217, 218, 219, 5, 220, 185, 186, 187, 188, 45, 46, 47, 221, 222, 223, 224, 225, 226, 227, 228, 48, 561, 562, 563, 564, 565, 566, 567, 568, 569, 570, 571, 572, 573] (by decide +kernel) (by decide +kernel)) (goodIn_sub (fun _ h => List.mem_append_left _ (List.mem_append_left _ (List.mem_append_left _ (List.mem_append_left _ (List.mem_append_right _ h))))) (by decide +kernel))
set_option maxRecDepth 20000 in
theorem gL_law_X1_isPossible : GoodIn wsL_law (wsV RL 105 RX1 yX1_isPossible wsX1_isPossible) := goodIn_app (goodIn_of _ (by decide +kernel)) ggL_law_X1_isPossible
set_option maxRecDepth 20000 in
theorem ggL_law_X0_crowdedSet : GoodIn wsL_law wsX0_crowdedSet := goodIn_ca (goodIn_r _ [197, 16, 198, 199, 200, 2, 201, 28, 202, 203, 204, 205, 15, 206, 207, 208, 209, 19, 210, 211, 212, 550, 551, 552, 553, 554, 555, 556, 557, 558, 559, 560] (by decide +kernel) (by decide +kernel)) (goodIn_sub (fun _ h => List.mem_append_left _ (List.mem_append_left _ (List.mem_append_left _ (List.mem_append_left _ (List.mem_append_right _ h))))) (by decide +kernel))
set_option maxRecDepth 20000 in
theorem gL_law_X0_crowdedSet : GoodIn wsL_law (wsV RL 106 RX0 yX0_crowdedSet wsX0_crowdedSet) := goodIn_app (goodIn_of _ (by decide +kernel)) ggL_law_X0_crowdedSet
set_option maxRecDepth 20000 in
theorem ggL_law_X1_crowdedSet : GoodIn wsL_law wsX1_crowdedSet := goodIn_ca (goodIn_r _ [233, 82, 221, 222, 223, 5, 224, 45, 225, 226, 227, 228, 48, 46, 47, 561, 562, 563, 564, 565, 566, 567, 568, 569, 570, 571, 572, 573] (by decide +kernel) (by decide +kernel)) (goodIn_sub (fun _ h => List.mem_append_left _ (List.mem_append_left _ (List.mem_append_left _ (List.mem_append_left _ (List.mem_append_right _ h))))) (by decide +kernel))
set_option maxRecDepth 20000 in
theorem gL_law_X1_crowdedSet : GoodIn wsL_law (wsV RL 109 RX1 yX1_crowdedSet wsX1_crowdedSet) := goodIn_app (goodIn_of _ (by decide +kernel)) ggL_law_X1_crowdedSet
set_option maxRecDepth 20000 in
theorem ggL_law_L_excess : GoodIn wsL_law wsL_excess := goodIn_ca (goodIn_ca (goodIn_r _ [236, 68, 237, 238, 239, 2, 240, 16, 198, 199, 200, 201, 28, 73, 74, 75, 76, 77, 202, 203, 204, 205, 15, 206, 207, 208, 209, 19, 210, 211, 212, 550, 551, 552, 553, 554, 555, 556, 557, 558, 559, 560] (by decide +kernel) (by decide +kernel)) (goodIn_sub (fun _ h => List.mem_append_left _ (List.mem_append_left _ (List.mem_append_left _ (List.mem_append_left _ (List.mem_append_right _ h))))) (by decide +kernel))) (goodIn_sub (fun _ h => List.mem_append_left _ (List.mem_append_left _ (List.mem_append_left _ (List.mem_append_right _ h)))) (by decide +kernel))
set_option maxRecDepth 20000 in
theorem gL_law_L_excess : GoodIn wsL_law (va_wsS RL 110 yL_excess wsL_excess) := goodIn_app (goodIn_of _ (by decide +kernel)) ggL_law_L_excess
set_option maxRecDepth 20000 in
theorem ggL_law_X1_excess : GoodIn wsL_law wsX1_excess := goodIn_ca (goodIn_r _ [244, 45, 82, 83, 84, 5, 85, 225, 226, 227, 228, 48, 46, 47, 561, 562, 563, 564, 565, 566, 567, 568, 569, 570, 571, 572, 573] (by decide +kernel) (by decide +kernel)) (goodIn_sub (fun _ h => List.mem_append_left _ (List.mem_append_left _ (List.mem_append_left _ (List.mem_append_left _ (List.mem_append_right _ h))))) (by decide +kernel))
set_option maxRecDepth 20000 in
theorem gL_law_X1_excess : GoodIn wsL_law (wsV RL 112 RX1 yX1_excess wsX1_excess) := goodIn_app (goodIn_of _ (by decide +kernel)) ggL_law_X1_excess
set_option maxRecDepth 20000 in
theorem ggL_law_L_iterate : GoodIn wsL_law wsL_iterate := goodIn_ca (goodIn_ca (goodIn_r _ [247, 68, 248, 249, 250, 2, 251, 40, 73, 74, 75, 76, 77, 252, 253, 254, 255, 28, 256, 257, 258, 259, 15, 18, 260, 261, 262, 263, 33, 34, 35, 264, 265, 266, 267, 16, 268, 269, 270, 271, 550, 551, 552, 553, 554, 555, 556, 557, 558, 559, 560] (by decide +kernel) (by decide +kernel)) (goodIn_sub (fun _ h => List.mem_append_left _ (List.mem_append_left _ (List.mem_append_left _ (List.mem_append_left _ (List.mem_append_right _ h))))) (by decide +kernel))) (goodIn_sub (fun _ h => List.mem_append_left _ (List.mem_append_left _ (List.mem_append_left _ (List.mem_append_right _ h)))) (by decide +kernel))
set_option maxRecDepth 20000 in
theorem gL_law_L_iterate : GoodIn wsL_law (va_wsS RL 113 yL_iterate wsL_iterate) := goodIn_app (goodIn_of _ (by decide +kernel)) ggL_law_L_iterate
set_option maxRecDepth 20000 in
theorem ggL_law_X1_iterate : GoodIn wsL_law wsX1_iterate := goodIn_ca (goodIn_r _ [275, 82, 63, 83, 84, 5, 85, 276, 277, 278, 279, 45, 280, 281, 282, 283, 46, 49, 284, 285, 286, 287, 288, 289, 290, 291, 47, 292, 293, 294, 295, 561, 562, 563, 564, 565, 566, 567, 568, 569, 570, 571, 572, 573] (by decide +kernel) (by decide +kernel)) (goodIn_sub (fun _ h => List.mem_append_left _ (List.mem_append_left _ (List.mem_append_left _ (List.mem_append_left _ (List.mem_append_right _ h))))) (by decide +kernel))
set_option maxRecDepth 20000 in
theorem gL_law_X1_iterate : GoodIn wsL_law (wsV RL 115 RX1 yX1_iterate wsX1_iterate) := goodIn_app (goodIn_of _ (by decide +kernel)) ggL_law_X1_iterate
set_option maxRecDepth 20000 in
theorem ggL_law_L_fit : GoodIn wsL_law wsL_fit := goodIn_ca (goodIn_ca (goodIn_r _ [298, 68, 299, 300, 301, 2, 302, 303, 304, 73, 74, 75, 76, 77, 305, 306, 307, 308, 28, 15, 16, 260, 261, 262, 263, 18, 33, 34, 35, 309, 310, 311, 268, 269, 270, 271, 252, 253, 254, 255, 40, 256, 257, 258, 259, 264, 265, 266, 267, 550, 551, 552, 553, 554, 555, 556, 557, 558, 559, 560] (by decide +kernel) (by decide +kernel)) (goodIn_sub (fun _ h => List.mem_append_left _ (List.mem_append_left _ (List.mem_append_left _ (List.mem_append_left _ (List.mem_append_right _ h))))) (by decide +kernel))) (goodIn_sub (fun _ h => List.mem_append_left _ (List.mem_append_left _ (List.mem_append_left _ (List.mem_append_right _ h)))) (by decide +kernel))
set_option maxRecDepth 20000 in
theorem gL_law_L_fit : GoodIn wsL_law (va_wsS RL 116 yL_fit wsL_fit) := goodIn_app (goodIn_of _ (by decide +kernel)) ggL_law_L_fit
set_option maxRecDepth 20000 in
theorem ggL_law_X1_fit : GoodIn wsL_law wsX1_fit := goodIn_ca (goodIn_r _ [315, 316, 82, 317, 83, 84, 5, 85, 318, 319, 320, 321, 45, 46, 47, 284, 285, 286, 287, 49, 322, 323, 324, 292, 293, 294, 295, 276, 277, 278, 279, 63, 280, 281, 282, 283, 288, 289, 290, 291, 561, 562, 563, 564, 565, 566, 567, 568, 569, 570, 571, 572, 573] (by decide +kernel) (by decide +kernel)) (goodIn_sub (fun _ h => List.mem_append_left _ (List.mem_append_left _ (List.mem_append_left _ (List.mem_append_left _ (List.mem_append_right _ h))))) (by decide +kernel))
set_option maxRecDepth 20000 in
theorem gL_law_X1_fit : GoodIn wsL_law (wsV RL 118 RX1 yX1_fit wsX1_fit) := goodIn_app (goodIn_of _ (by decide +kernel)) ggL_law_X1_fit
set_option maxRecDepth 20000 in
theorem ggL_law_X0_reset : GoodIn wsL_law wsX0_reset := goodIn_ca (goodIn_r _ [328, 40, 36, 37, 38, 2, 39, 28, 18, 17, 33, 34, 35, 550, 551, 552, 553, 554, 555, 556, 557, 558, 559, 560] (by decide +kernel) (by decide +kernel)) (goodIn_sub (fun _ h => List.mem_append_left _ (List.mem_append_left _ (List.mem_append_left _ (List.mem_append_left _ (List.mem_append_right _ h))))) (by decide +kernel))
set_option maxRecDepth 20000 in
theorem gL_law_X0_reset : GoodIn wsL_law (wsV RL 119 RX0 yX0_reset wsX0_reset) := goodIn_app (goodIn_of _ (by decide +kernel)) ggL_law_X0_reset
set_option maxRecDepth 20000 in
theorem ggL_law_X1_reset : GoodIn wsL_law wsX1_reset := goodIn_ca (goodIn_r _ [332, 82, 63, 59, 60, 61, 5, 62, 49, 48, 561, 562, 563, 564, 565, 566, 567, 568, 569, 570, 571, 572, 573] (by decide +kernel) (by decide +kernel)) (goodIn_sub (fun _ h => List.mem_append_left _ (List.mem_append_left _ (List.mem_append_left _ (List.mem_append_left _ (List.mem_append_right _ h))))) (by decide +kernel))
set_option maxRecDepth 20000 in
theorem gL_law_X1_reset : GoodIn wsL_law (wsV RL 122 RX1 yX1_reset wsX1_reset) := goodIn_app (goodIn_of _ (by decide +kernel)) ggL_law_X1_reset
set_option maxRecDepth 20000 in
theorem ggL_law_X0_rounds : GoodIn wsL_law wsX0_rounds := goodIn_r _ [336, 40, 550, 551, 552, 553, 554, 555, 556, 557, 558, 559, 560] (by decide +kernel) (by decide +kernel)
set_option maxRecDepth 20000 in
theorem gL_law_X0_rounds : GoodIn wsL_law (wsV RL 123 RX0 yX0_rounds wsX0_rounds) := goodIn_app (goodIn_of _ (by decide +kernel)) ggL_law_X0_rounds
set_option maxRecDepth 20000 in
theorem ggL_law_X1_rounds : GoodIn wsL_law wsX1_rounds := goodIn_r _ [340, 82, 63, 561, 562, 563, 564, 565, 566, 567, 568, 569, 570, 571, 572, 573] (by decide +kernel) (by decide +kernel)
set_option maxRecDepth 20000 in
theorem gL_law_X1_rounds : GoodIn wsL_law (wsV RL 126 RX1 yX1_rounds wsX1_rounds) := goodIn_app (goodIn_of _ (by decide +kernel)) ggL_law_X1_rounds
set_option maxRecDepth 20000 in
theorem ggL_law_L_estimate : GoodIn wsL_law wsL_estimate := goodIn_ca (goodIn_ca (goodIn_r _ [343, 101, 344, 345, 346, 2, 347, 18, 110, 111, 112, 113, 114, 115, 28, 33, 34, 35, 550, 551, 552, 553, 554, 555, 556, 557, 558, 559, 560] (by decide +kernel) (by decide +kernel)) (goodIn_sub (fun _ h => List.mem_append_left _ (List.mem_append_left _ (List.mem_append_left _ (List.mem_append_left _ (List.mem_append_right _ h))))) (by decide +kernel))) (goodIn_sub (fun _ h => List.mem_append_left _ (List.mem_append_left _ (List.mem_append_right _ h))) (by decide +kernel))
set_option maxRecDepth 20000 in
theorem gL_law_L_estimate : GoodIn wsL_law (va_wsS RL 127 yL_estimate wsL_estimate) := goodIn_app (goodIn_of _ (by decide +kernel)) ggL_law_L_estimate
set_option maxRecDepth 20000 in
theorem ggL_law_X1_estimate : GoodIn wsL_law wsX1_estimate := goodIn_ca (goodIn_r _ [351, 82, 49, 352, 353, 354, 5, 355, 120, 121, 122, 123, 45, 83, 84, 85, 561, 562, 563, 564, 565, 566, 567, 568, 569, 570, 571, 572, 573] (by decide +kernel) (by decide +kernel)) (goodIn_sub (fun _ h => List.mem_append_left _ (List.mem_append_left _ (List.mem_append_left _ (List.mem_append_left _ (List.mem_append_right _ h))))) (by decide +kernel))
set_option maxRecDepth 20000 in
theorem gL_law_X1_estimate : GoodIn wsL_law (wsV RL 130 RX1 yX1_estimate wsX1_estimate) := goodIn_app (goodIn_of _ (by decide +kernel)) ggL_law_X1_estimate
set_option maxRecDepth 20000 in
theorem ggL_law_L_sum : GoodIn wsL_law wsL_sum := goodIn_ca (goodIn_ca (goodIn_r _ [358, 101, 359, 360, 361, 2, 362, 110, 111, 112, 113, 114, 115, 28, 268, 269, 270, 271, 18, 33, 34, 35, 260, 261, 262, 263, 550, 551, 552, 553, 554, 555, 556, 557, 558, 559, 560] (by decide +kernel) (by decide +kernel)) (goodIn_sub (fun _ h => List.mem_append_left _ (List.mem_append_left _ (List.mem_append_left _ (List.mem_append_left _ (List.mem_append_right _ h))))) (by decide +kernel))) (goodIn_sub (fun _ h => List.mem_append_left _ (List.mem_append_left _ (List.mem_append_right _ h))) (by decide +kernel))
set_option maxRecDepth 20000 in
theorem gL_law_L_sum : GoodIn wsL_law (va_wsS RL 131 yL_sum wsL_sum) := goodIn_app (goodIn_of _ (by decide +kernel)) ggL_law_L_sum
set_option maxRecDepth 20000 in
theorem ggL_law_X1_sum : GoodIn wsL_law wsX1_sum := goodIn_ca (goodIn_r _ [366, 82, 120, 121, 122, 5, 123, 45, 83, 84, 85, 292, 293, 294, 295, 49, 284, 285, 286, 287, 561, 562, 563, 564, 565, 566, 567, 568, 569, 570, 571, 572, 573] (by decide +kernel) (by decide +kernel)) (goodIn_sub (fun _ h => List.mem_append_left _ (List.mem_append_left _ (List.mem_append_left _ (List.mem_append_left _ (List.mem_append_right _ h))))) (by decide +kernel))
set_option maxRecDepth 20000 in
theorem gL_law_X1_sum : GoodIn wsL_law (wsV RL 134 RX1 yX1_sum wsX1_sum) := goodIn_app (goodIn_of _ (by decide +kernel)) ggL_law_X1_sum
set_option maxRecDepth 20000 in
theorem ggL_law_X0_misfit : GoodIn wsL_law wsX0_misfit := goodIn_ca (goodIn_r _ [308, 28, 15, 16, 260, 261, 262, 2, 263, 18, 33, 34, 35, 309, 310, 311, 268, 269, 270, 271, 550, 551, 552, 553, 554, 555, 556, 557, 558, 559, 560] (by decide +kernel) (by decide +kernel)) (goodIn_sub (fun _ h => List.mem_append_left _ (List.mem_append_left _ (List.mem_append_left _ (List.mem_append_left _ (List.mem_append_right _ h))))) (by decide +kernel))
set_option maxRecDepth 20000 in
theorem gL_law_X0_misfit : GoodIn wsL_law (wsV RL 135 RX0 yX0_misfit wsX0_misfit) := goodIn_app (goodIn_of _ (by decide +kernel)) ggL_law_X0_misfit
set_option maxRecDepth 20000 in
theorem ggL_law_X1_misfit : GoodIn wsL_law wsX1_misfit := goodIn_ca (goodIn_r _ [371, 82, 318, 319, 320, 5, 321, 45, 46, 47, 284, 285, 286, 287, 49, 322, 323, 324, 292, 293, 294, 295, 561, 562, 563, 564, 565, 566, 567, 568, 569, 570, 571, 572, 573] (by decide +kernel) (by decide +kernel)) (goodIn_sub (fun _ h => List.mem_append_left _ (List.mem_append_left _ (List.mem_append_left _ (List.mem_append_left _ (List.mem_append_right _ h))))) (by decide +kernel))
set_option maxRecDepth 20000 in
theorem gL_law_X1_misfit : GoodIn wsL_law (wsV RL 139 RX1 yX1_misfit wsX1_misfit) := goodIn_app (goodIn_of _ (by decide +kernel)) ggL_law_X1_misfit
set_option maxRecDepth 20000 in
theorem ggL_law_L_share : GoodIn wsL_law wsL_share := goodIn_ca (goodIn_ca (goodIn_r _ [374, 101, 375, 376, 377, 2, 378, 18, 110, 111, 112, 113, 114, 115, 28, 260, 261, 262, 263, 33, 34, 35, 550, 551, 552, 553, 554, 555, 556, 557, 558, 559, 560] (by decide +kernel) (by decide +kernel)) (goodIn_sub (fun _ h => List.mem_append_left _ (List.mem_append_left _ (List.mem_append_left _ (List.mem_append_left _ (List.mem_append_right _ h))))) (by decide +kernel))) (goodIn_sub (fun _ h => List.mem_append_left _ (List.mem_append_left _ (List.mem_append_right _ h))) (by decide +kernel))
set_option maxRecDepth 20000 in
theorem gL_law_L_share : GoodIn wsL_law (va_wsS RL 140 yL_share wsL_share) := goodIn_app (goodIn_of _ (by decide +kernel)) ggL_law_L_share
set_option maxRecDepth 20000 in
theorem ggL_law_X1_share : GoodIn wsL_law wsX1_share := goodIn_ca (goodIn_r _ [382, 82, 49, 352, 353, 354, 5, 355, 120, 121, 122, 123, 45, 83, 84, 85, 284, 285, 286, 287, 561, 562, 563, 564, 565, 566, 567, 568, 569, 570, 571, 572, 573] (by decide +kernel) (by decide +kernel)) (goodIn_sub (fun _ h => List.mem_append_left _ (List.mem_append_left _ (List.mem_append_left _ (List.mem_append_left _ (List.mem_append_right _ h))))) (by decide +kernel))
set_option maxRecDepth 20000 in
theorem gL_law_X1_share : GoodIn wsL_law (wsV RL 142 RX1 yX1_share wsX1_share) := goodIn_app (goodIn_of _ (by decide +kernel)) ggL_law_X1_share
set_option maxRecDepth 20000 in
theorem ggL_law_L_crossRatio : GoodIn wsL_law wsL_crossRatio := goodIn_ca (goodIn_ca (goodIn_ca (goodIn_r _ [385, 101, 386, 387, 388, 389, 2, 390, 391, 392, 18, 110, 111, 112, 113, 114, 115, 28, 33, 34, 35, 550, 551, 552, 553, 554, 555, 556, 557, 558, 559, 560] (by decide +kernel) (by decide +kernel)) (goodIn_sub (fun _ h => List.mem_append_left _ (List.mem_append_left _ (List.mem_append_left _ (List.mem_append_left _ (List.mem_append_right _ h))))) (by decide +kernel))) (goodIn_sub (fun _ h => List.mem_append_right _ h) (by decide +kernel))) (goodIn_sub (fun _ h => List.mem_append_left _ (List.mem_append_left _ (List.mem_append_right _ h))) (by decide +kernel))
set_option maxRecDepth 20000 in
theorem gL_law_L_crossRatio : GoodIn wsL_law (va_wsS RL 143 yL_crossRatio wsL_crossRatio) := goodIn_app (goodIn_of _ (by decide +kernel)) ggL_law_L_crossRatio
set_option maxRecDepth 20000 in
theorem ggL_law_X1_crossRatio : GoodIn wsL_law wsX1_crossRatio := goodIn_ca (goodIn_r _ [396, 82, 49, 352, 353, 354, 5, 355, 120, 121, 122, 123, 45, 83, 84, 85, 561, 562, 563, 564, 565, 566, 567, 568, 569, 570, 571, 572, 573] (by decide +kernel) (by decide +kernel)) (goodIn_sub (fun _ h => List.mem_append_left _ (List.mem_append_left _ (List.mem_append_left _ (List.mem_append_left _ (List.mem_append_right _ h))))) (by decide +kernel))
set_option maxRecDepth 20000 in
theorem gL_law_X1_crossRatio : GoodIn wsL_law (wsV RL 146 RX1 yX1_crossRatio wsX1_crossRatio) := goodIn_app (goodIn_of _ (by decide +kernel)) ggL_law_X1_crossRatio
set_option maxRecDepth 20000 in
theorem ggL_law_X0_busiestTurn : GoodIn wsL_law wsX0_busiestTurn := goodIn_ca (goodIn_r _ [400, 28, 18, 33, 34, 2, 35, 550, 551, 552, 553, 554, 555, 556, 557, 558, 559, 560] (by decide +kernel) (by decide +kernel)) (goodIn_sub (fun _ h => List.mem_append_left _ (List.mem_append_left _ (List.mem_append_left _ (List.mem_append_left _ (List.mem_append_right _ h))))) (by decide +kernel))
set_option maxRecDepth 20000 in
theorem gL_law_X0_busiestTurn : GoodIn wsL_law (wsV RL 147 RX0 yX0_busiestTurn wsX0_busiestTurn) := goodIn_app (goodIn_of _ (by decide +kernel)) ggL_law_X0_busiestTurn
set_option maxRecDepth 20000 in
theorem ggL_law_X1_busiestTurn : GoodIn wsL_law wsX1_busiestTurn := goodIn_ca (goodIn_r _ [404, 82, 405, 406, 407, 5, 408, 45, 49, 561, 562, 563, 564, 565, 566, 567, 568, 569, 570, 571, 572, 573] (by decide +kernel) (by decide +kernel)) (goodIn_sub (fun _ h => List.mem_append_left _ (List.mem_append_left _ (List.mem_append_left _ (List.mem_append_left _ (List.mem_append_right _ h))))) (by decide +kernel))
set_option maxRecDepth 20000 in
theorem gL_law_X1_busiestTurn : GoodIn wsL_law (wsV RL 150 RX1 yX1_busiestTurn wsX1_busiestTurn) := goodIn_app (goodIn_of _ (by decide +kernel)) ggL_law_X1_busiestTurn
set_option maxRecDepth 20000 in
theorem ggL_law_L_rounded : GoodIn wsL_law wsL_rounded := goodIn_ca (goodIn_ca (goodIn_r _ [411, 101, 412, 413, 414, 2, 415, 20, 110, 111, 112, 113, 114, 115, 28, 416, 417, 418, 419, 18, 15, 23, 260, 261, 262, 263, 33, 34, 35, 420, 421, 422, 423, 424, 425, 426, 427, 428, 429, 430, 431, 432, 433, 434, 435, 436, 19, 210, 211, 212, 550, 551, 552, 553, 554, 555, 556, 557, 558, 559, 560] (by decide +kernel) (by decide +kernel)) (goodIn_sub (fun _ h => List.mem_append_left _ (List.mem_append_left _ (List.mem_append_left _ (List.mem_append_left _ (List.mem_append_right _ h))))) (by decide +kernel))) (goodIn_sub (fun _ h => List.mem_append_left _ (List.mem_append_left _ (List.mem_append_right _ h))) (by decide +kernel))
set_option maxRecDepth 20000 in
theorem gL_law_L_rounded : GoodIn wsL_law (va_wsS RL 151 yL_rounded wsL_rounded) := goodIn_app (goodIn_of _ (by decide +kernel)) ggL_law_L_rounded
set_option maxRecDepth 20000 in
theorem ggL_law_X1_rounded : GoodIn wsL_law wsX1_rounded := goodIn_ca (goodIn_r _ [440, 82, 50, 352, 353, 354, 5, 355, 120, 121, 122, 123, 45, 83, 84, 85, 441, 442, 443, 444, 49, 46, 51, 445, 284, 285, 286, 287, 446, 447, 448, 449, 48, 561, 562, 563, 564, 565, 566, 567, 568, 569, 570, 571, 572, 573] (by decide +kernel) (by decide +kernel)) (goodIn_sub (fun _ h => List.mem_append_left _ (List.mem_append_left _ (List.mem_append_left _ (List.mem_append_left _ (List.mem_append_right _ h))))) (by decide +kernel))
set_option maxRecDepth 20000 in
theorem gL_law_X1_rounded : GoodIn wsL_law (wsV RL 153 RX1 yX1_rounded wsX1_rounded) := goodIn_app (goodIn_of _ (by decide +kernel)) ggL_law_X1_rounded
set_option maxRecDepth 20000 in
theorem ggL_law_X0_roundedMisfit : GoodIn wsL_law wsX0_roundedMisfit := goodIn_ca (goodIn_r _ [453, 454, 455, 456, 2, 457, 28, 416, 417, 418, 419, 18, 15, 20, 23, 260, 261, 262, 263, 33, 34, 35, 420, 421, 422, 423, 424, 425, 426, 427, 428, 429, 430, 431, 432, 433, 434, 435, 436, 19, 210, 211, 212, 458, 459, 460, 461, 16, 462, 463, 464, 550, 551, 552, 553, 554, 555, 556, 557, 558, 559, 560] (by decide +kernel) (by decide +kernel)) (goodIn_sub (fun _ h => List.mem_append_left _ (List.mem_append_left _ (List.mem_append_left _ (List.mem_append_left _ (List.mem_append_right _ h))))) (by decide +kernel))
set_option maxRecDepth 20000 in
theorem gL_law_X0_roundedMisfit : GoodIn wsL_law (wsV RL 154 RX0 yX0_roundedMisfit wsX0_roundedMisfit) := goodIn_app (goodIn_of _ (by decide +kernel)) ggL_law_X0_roundedMisfit
set_option maxRecDepth 20000 in
theorem ggL_law_X1_roundedMisfit : GoodIn wsL_law wsX1_roundedMisfit := goodIn_ca (goodIn_r _ [468, 82, 469, 470, 471, 5, 472, 45, 47, 50, 473, 474, 475, 476, 441, 442, 443, 444, 49, 46, 51, 445, 284, 285, 286, 287, 446, 447, 448, 449, 48, 561, 562, 563, 564, 565, 566, 567, 568, 569, 570, 571, 572, 573] (by decide +kernel) (by decide +kernel)) (goodIn_sub (fun _ h => List.mem_append_left _ (List.mem_append_left _ (List.mem_append_left _ (List.mem_append_left _ (List.mem_append_right _ h))))) (by decide +kernel))
set_option maxRecDepth 20000 in
theorem gL_law_X1_roundedMisfit : GoodIn wsL_law (wsV RL 157 RX1 yX1_roundedMisfit wsX1_roundedMisfit) := goodIn_app (goodIn_of _ (by decide +kernel)) ggL_law_X1_roundedMisfit
set_option maxRecDepth 20000 in
theorem ggL_law_L_possible : GoodIn wsL_law wsL_possible := goodIn_ca (goodIn_ca (goodIn_r _ [479, 101, 480, 481, 482, 2, 483, 21, 110, 111, 112, 113, 114, 115, 28, 484, 485, 486, 487, 16, 22, 488, 489, 490, 491, 15, 492, 190, 191, 192, 193, 178, 179, 180, 162, 163, 164, 165, 194, 195, 196, 197, 198, 199, 200, 201, 202, 203, 204, 205, 206, 207, 208, 209, 19, 210, 211, 212, 493, 494, 495, 496, 424, 425, 426, 427, 433, 434, 435, 436, 33, 34, 35, 550, 551, 552, 553, 554, 555, 556, 557, 558, 559, 560] (by decide +kernel) (by decide +kernel)) (goodIn_sub (fun _ h => List.mem_append_left _ (List.mem_append_left _ (List.mem_append_left _ (List.mem_append_left _ (List.mem_append_right _ h))))) (by decide +kernel))) (goodIn_sub (fun _ h => List.mem_append_left _ (List.mem_append_left _ (List.mem_append_right _ h))) (by decide +kernel))
set_option maxRecDepth 20000 in
theorem gL_law_L_possible : GoodIn wsL_law (va_wsS RL 158 yL_possible wsL_possible) := goodIn_app (goodIn_of _ (by decide +kernel)) ggL_law_L_possible
set_option maxRecDepth 20000 in
theorem ggL_law_X1_possible : GoodIn wsL_law wsX1_possible := goodIn_ca (goodIn_r _ [500, 82, 352, 353, 354, 5, 355, 120, 121, 122, 123, 45, 83, 84, 85, 501, 502, 503, 504, 52, 217, 218, 219, 220, 185, 186, 187, 188, 46, 47, 221, 222, 223, 224, 225, 226, 227, 228, 48, 505, 506, 507, 508, 53, 54, 509, 510, 511, 512, 513, 514, 515, 516, 561, 562, 563, 564, 565, 566, 567, 568, 569, 570, 571, 572, 573] (by decide +kernel) (by decide +kernel)) (goodIn_sub (fun _ h => List.mem_append_left _ (List.mem_append_left _ (List.mem_append_left _ (List.mem_append_left _ (List.mem_append_right _ h))))) (by decide +kernel))
set_option maxRecDepth 20000 in
theorem gL_law_X1_possible : GoodIn wsL_law (wsV RL 160 RX1 yX1_possible wsX1_possible) := goodIn_app (goodIn_of _ (by decide +kernel)) ggL_law_X1_possible
set_option maxRecDepth 20000 in
theorem ggL_law_X0_digest : GoodIn wsL_law wsX0_digest := goodIn_ca (goodIn_r _ [520, 521, 28, 15, 16, 40, 454, 455, 456, 2, 457, 416, 417, 418, 419, 18, 20, 23, 260, 261, 262, 263, 33, 34, 35, 420, 421, 422, 423, 424, 425, 426, 427, 428, 429, 430, 431, 432, 433, 434, 435, 436, 19, 210, 211, 212, 484, 485, 486, 487, 22, 488, 489, 490, 491, 21, 492, 190, 191, 192, 193, 178, 179, 180, 162, 163, 164, 165, 194, 195, 196, 197, 198, 199, 200, 201, 202, 203, 204, 205, 206, 207, 208, 209, 493, 494, 495, 496, 522, 523, 524, 525, 526, 527, 528, 529, 17, 530, 531, 532, 304, 305, 306, 307, 308, 309, 310, 311, 268, 269, 270, 271, 533, 398, 399, 400, 458, 459, 460, 461, 462, 463, 464, 550, 551, 552, 553, 554, 555, 556, 557, 558, 559, 560] (by decide +kernel) (by decide +kernel)) (goodIn_sub (fun _ h => List.mem_append_left _ (List.mem_append_left _ (List.mem_append_left _ (List.mem_append_left _ (List.mem_append_right _ h))))) (by decide +kernel))
set_option maxRecDepth 20000 in
theorem gL_law_X0_digest : GoodIn wsL_law (wsV RL 161 RX0 yX0_digest wsX0_digest) := goodIn_app (goodIn_of _ (by decide +kernel)) ggL_law_X0_digest
set_option maxRecDepth 20000 in
theorem ggL_law_X1_digest : GoodIn wsL_law wsX1_digest := goodIn_ca (goodIn_r _ [537, 82, 538, 539, 45, 46, 47, 63, 317, 540, 541, 542, 5, 543, 544, 545, 546, 547, 548, 48, 49, 50, 52, 549, 473, 474, 475, 476, 441, 442, 443, 444, 51, 445, 284, 285, 286, 287, 446, 447, 448, 449, 217, 218, 219, 220, 185, 186, 187, 188, 221, 222, 223, 224, 225, 226, 227, 228, 505, 506, 507, 508, 53, 54, 509, 510, 511, 512, 513, 514, 515, 516, 318, 319, 320, 321, 322, 323, 324, 292, 293, 294, 295, 405, 406, 407, 408, 469, 470, 471, 472, 561, 562, 563, 564, 565, 566, 567, 568, 569, 570, 571, 572, 573] (by decide +kernel) (by decide +kernel)) (goodIn_sub (fun _ h => List.mem_append_left _ (List.mem_append_left _ (List.mem_append_left _ (List.mem_append_left _ (List.mem_append_right _ h))))) (by decide +kernel))
set_option maxRecDepth 20000 in
theorem gL_law_X1_digest : GoodIn wsL_law (wsV RL 165 RX1 yX1_digest wsX1_digest) := goodIn_app (goodIn_of _ (by decide +kernel)) ggL_law_X1_digest
end
section
theorem dL_law_0 : decode cL_law 0 = .ok (.new 8, 3) := by decide +kernel
theorem dL_law_3 : decode cL_law 3 = .ok (.dup, 1) := by decide +kernel
theorem dL_law_4 : decode cL_law 4 = .ok (.invokespecial 65, 3) := by decide +kernel
theorem dL_law_7 : decode cL_law 7 = .ok (.astore_n 1, 1) := by decide +kernel
theorem dL_law_8 : decode cL_law 8 = .ok (.new 66, 3) := by decide +kernel
theorem dL_law_11 : decode cL_law 11 = .ok (.dup, 1) := by decide +kernel
theorem dL_law_12 : decode cL_law 12 = .ok (.invokespecial 68, 3) := by decide +kernel
theorem dL_law_15 : decode cL_law 15 = .ok (.astore_n 2, 1) := by decide +kernel
theorem dL_law_16 : decode cL_law 16 = .ok (.iconst 1, 1) := by decide +kernel
theorem dL_law_17 : decode cL_law 17 = .ok (.newarray .long, 2) := by decide +kernel
theorem dL_law_19 : decode cL_law 19 = .ok (.astore_n 3, 1) := by decide +kernel
theorem dL_law_20 : decode cL_law 20 = .ok (.iconst 1, 1) := by decide +kernel
theorem dL_law_21 : decode cL_law 21 = .ok (.newarray .double, 2) := by decide +kernel
theorem dL_law_23 : decode cL_law 23 = .ok (.astore 4, 2) := by decide +kernel
theorem dL_law_25 : decode cL_law 25 = .ok (.iconst 0, 1) := by decide +kernel
theorem dL_law_26 : decode cL_law 26 = .ok (.istore 5, 2) := by decide +kernel
theorem dL_law_28 : decode cL_law 28 = .ok (.iload 5, 2) := by decide +kernel
theorem dL_law_30 : decode cL_law 30 = .ok (.aload_n 0, 1) := by decide +kernel
theorem dL_law_31 : decode cL_law 31 = .ok (.arraylength, 1) := by decide +kernel
theorem dL_law_32 : decode cL_law 32 = .ok (.iconst 5, 1) := by decide +kernel
theorem dL_law_33 : decode cL_law 33 = .ok (.isub, 1) := by decide +kernel
theorem dL_law_34 : decode cL_law 34 = .ok (.if_icmp .gt 1327, 3) := by decide +kernel
theorem dL_law_37 : decode cL_law 37 = .ok (.aload_n 0, 1) := by decide +kernel
theorem dL_law_38 : decode cL_law 38 = .ok (.iload 5, 2) := by decide +kernel
theorem dL_law_40 : decode cL_law 40 = .ok (.iaload, 1) := by decide +kernel
theorem dL_law_41 : decode cL_law 41 = .ok (.bipush 31, 2) := by decide +kernel
theorem dL_law_43 : decode cL_law 43 = .ok (.iand, 1) := by decide +kernel
theorem dL_law_44 : decode cL_law 44 = .ok (.tableswitch 1311 0 23 #[112, 168, 181, 249, 317, 397, 453, 466, 479, 492, 548, 604, 672, 685, 698, 787, 892, 933, 1022, 1135, 1148, 1216, 1229, 1297], 112) := by decide +kernel
theorem dL_law_156 : decode cL_law 156 = .ok (.aload_n 1, 1) := by decide +kernel
theorem dL_law_157 : decode cL_law 157 = .ok (.aload_n 0, 1) := by decide +kernel
theorem dL_law_158 : decode cL_law 158 = .ok (.iload 5, 2) := by decide +kernel
theorem dL_law_160 : decode cL_law 160 = .ok (.iconst 1, 1) := by decide +kernel
theorem dL_law_161 : decode cL_law 161 = .ok (.iadd, 1) := by decide +kernel
theorem dL_law_162 : decode cL_law 162 = .ok (.iaload, 1) := by decide +kernel
theorem dL_law_163 : decode cL_law 163 = .ok (.aload_n 3, 1) := by decide +kernel
theorem dL_law_164 : decode cL_law 164 = .ok (.invokestatic 69, 3) := by decide +kernel
theorem dL_law_167 : decode cL_law 167 = .ok (.istore 6, 2) := by decide +kernel
theorem dL_law_169 : decode cL_law 169 = .ok (.aload_n 2, 1) := by decide +kernel
theorem dL_law_170 : decode cL_law 170 = .ok (.aload_n 0, 1) := by decide +kernel
theorem dL_law_171 : decode cL_law 171 = .ok (.iload 5, 2) := by decide +kernel
theorem dL_law_173 : decode cL_law 173 = .ok (.iconst 1, 1) := by decide +kernel
theorem dL_law_174 : decode cL_law 174 = .ok (.iadd, 1) := by decide +kernel
theorem dL_law_175 : decode cL_law 175 = .ok (.iaload, 1) := by decide +kernel
theorem dL_law_176 : decode cL_law 176 = .ok (.invokevirtual 74, 3) := by decide +kernel
theorem dL_law_179 : decode cL_law 179 = .ok (.istore 7, 2) := by decide +kernel
theorem dL_law_181 : decode cL_law 181 = .ok (.aload_n 2, 1) := by decide +kernel
theorem dL_law_182 : decode cL_law 182 = .ok (.invokevirtual 75, 3) := by decide +kernel
theorem dL_law_185 : decode cL_law 185 = .ok (.iload 6, 2) := by decide +kernel
theorem dL_law_187 : decode cL_law 187 = .ok (.if_icmp .eq 5, 3) := by decide +kernel
theorem dL_law_190 : decode cL_law 190 = .ok (.iconst 0, 1) := by decide +kernel
theorem dL_law_191 : decode cL_law 191 = .ok (.ireturn, 1) := by decide +kernel
theorem dL_law_192 : decode cL_law 192 = .ok (.iload 6, 2) := by decide +kernel
theorem dL_law_194 : decode cL_law 194 = .ok (.ifCond .ne 15, 3) := by decide +kernel
theorem dL_law_197 : decode cL_law 197 = .ok (.aload_n 3, 1) := by decide +kernel
theorem dL_law_198 : decode cL_law 198 = .ok (.iconst 0, 1) := by decide +kernel
theorem dL_law_199 : decode cL_law 199 = .ok (.laload, 1) := by decide +kernel
theorem dL_law_200 : decode cL_law 200 = .ok (.iload 7, 2) := by decide +kernel
theorem dL_law_202 : decode cL_law 202 = .ok (.i2l, 1) := by decide +kernel
theorem dL_law_203 : decode cL_law 203 = .ok (.lcmp, 1) := by decide +kernel
theorem dL_law_204 : decode cL_law 204 = .ok (.ifCond .eq 5, 3) := by decide +kernel
theorem dL_law_207 : decode cL_law 207 = .ok (.iconst 0, 1) := by decide +kernel
theorem dL_law_208 : decode cL_law 208 = .ok (.ireturn, 1) := by decide +kernel
theorem dL_law_209 : decode cL_law 209 = .ok (.goto 1146, 3) := by decide +kernel
theorem dL_law_212 : decode cL_law 212 = .ok (.aload_n 1, 1) := by decide +kernel
theorem dL_law_213 : decode cL_law 213 = .ok (.invokevirtual 79, 3) := by decide +kernel
theorem dL_law_216 : decode cL_law 216 = .ok (.aload_n 2, 1) := by decide +kernel
theorem dL_law_217 : decode cL_law 217 = .ok (.invokevirtual 82, 3) := by decide +kernel
theorem dL_law_220 : decode cL_law 220 = .ok (.if_icmp .eq 1135, 3) := by decide +kernel
theorem dL_law_223 : decode cL_law 223 = .ok (.iconst 0, 1) := by decide +kernel
theorem dL_law_224 : decode cL_law 224 = .ok (.ireturn, 1) := by decide +kernel
theorem dL_law_225 : decode cL_law 225 = .ok (.aload_n 1, 1) := by decide +kernel
theorem dL_law_226 : decode cL_law 226 = .ok (.aload_n 0, 1) := by decide +kernel
theorem dL_law_227 : decode cL_law 227 = .ok (.iload 5, 2) := by decide +kernel
theorem dL_law_229 : decode cL_law 229 = .ok (.iconst 1, 1) := by decide +kernel
theorem dL_law_230 : decode cL_law 230 = .ok (.iadd, 1) := by decide +kernel
theorem dL_law_231 : decode cL_law 231 = .ok (.iaload, 1) := by decide +kernel
theorem dL_law_232 : decode cL_law 232 = .ok (.aload_n 0, 1) := by decide +kernel
theorem dL_law_233 : decode cL_law 233 = .ok (.iload 5, 2) := by decide +kernel
theorem dL_law_235 : decode cL_law 235 = .ok (.iconst 2, 1) := by decide +kernel
theorem dL_law_236 : decode cL_law 236 = .ok (.iadd, 1) := by decide +kernel
theorem dL_law_237 : decode cL_law 237 = .ok (.iaload, 1) := by decide +kernel
theorem dL_law_238 : decode cL_law 238 = .ok (.aload_n 3, 1) := by decide +kernel
theorem dL_law_239 : decode cL_law 239 = .ok (.invokestatic 83, 3) := by decide +kernel
theorem dL_law_242 : decode cL_law 242 = .ok (.istore 6, 2) := by decide +kernel
theorem dL_law_244 : decode cL_law 244 = .ok (.aload_n 2, 1) := by decide +kernel
theorem dL_law_245 : decode cL_law 245 = .ok (.aload_n 0, 1) := by decide +kernel
theorem dL_law_246 : decode cL_law 246 = .ok (.iload 5, 2) := by decide +kernel
theorem dL_law_248 : decode cL_law 248 = .ok (.iconst 1, 1) := by decide +kernel
theorem dL_law_249 : decode cL_law 249 = .ok (.iadd, 1) := by decide +kernel
theorem dL_law_250 : decode cL_law 250 = .ok (.iaload, 1) := by decide +kernel
theorem dL_law_251 : decode cL_law 251 = .ok (.aload_n 0, 1) := by decide +kernel
theorem dL_law_252 : decode cL_law 252 = .ok (.iload 5, 2) := by decide +kernel
theorem dL_law_254 : decode cL_law 254 = .ok (.iconst 2, 1) := by decide +kernel
theorem dL_law_255 : decode cL_law 255 = .ok (.iadd, 1) := by decide +kernel
theorem dL_law_256 : decode cL_law 256 = .ok (.iaload, 1) := by decide +kernel
theorem dL_law_257 : decode cL_law 257 = .ok (.invokevirtual 86, 3) := by decide +kernel
theorem dL_law_260 : decode cL_law 260 = .ok (.istore 7, 2) := by decide +kernel
theorem dL_law_262 : decode cL_law 262 = .ok (.aload_n 2, 1) := by decide +kernel
theorem dL_law_263 : decode cL_law 263 = .ok (.invokevirtual 75, 3) := by decide +kernel
theorem dL_law_266 : decode cL_law 266 = .ok (.iload 6, 2) := by decide +kernel
theorem dL_law_268 : decode cL_law 268 = .ok (.if_icmp .eq 5, 3) := by decide +kernel
theorem dL_law_271 : decode cL_law 271 = .ok (.iconst 0, 1) := by decide +kernel
theorem dL_law_272 : decode cL_law 272 = .ok (.ireturn, 1) := by decide +kernel
theorem dL_law_273 : decode cL_law 273 = .ok (.iload 6, 2) := by decide +kernel
theorem dL_law_275 : decode cL_law 275 = .ok (.ifCond .ne 15, 3) := by decide +kernel
theorem dL_law_278 : decode cL_law 278 = .ok (.aload_n 3, 1) := by decide +kernel
theorem dL_law_279 : decode cL_law 279 = .ok (.iconst 0, 1) := by decide +kernel
theorem dL_law_280 : decode cL_law 280 = .ok (.laload, 1) := by decide +kernel
theorem dL_law_281 : decode cL_law 281 = .ok (.iload 7, 2) := by decide +kernel
theorem dL_law_283 : decode cL_law 283 = .ok (.i2l, 1) := by decide +kernel
theorem dL_law_284 : decode cL_law 284 = .ok (.lcmp, 1) := by decide +kernel
theorem dL_law_285 : decode cL_law 285 = .ok (.ifCond .eq 5, 3) := by decide +kernel
theorem dL_law_288 : decode cL_law 288 = .ok (.iconst 0, 1) := by decide +kernel
theorem dL_law_289 : decode cL_law 289 = .ok (.ireturn, 1) := by decide +kernel
theorem dL_law_290 : decode cL_law 290 = .ok (.goto 1065, 3) := by decide +kernel
theorem dL_law_293 : decode cL_law 293 = .ok (.aload_n 1, 1) := by decide +kernel
theorem dL_law_294 : decode cL_law 294 = .ok (.aload_n 0, 1) := by decide +kernel
theorem dL_law_295 : decode cL_law 295 = .ok (.iload 5, 2) := by decide +kernel
theorem dL_law_297 : decode cL_law 297 = .ok (.iconst 1, 1) := by decide +kernel
theorem dL_law_298 : decode cL_law 298 = .ok (.iadd, 1) := by decide +kernel
theorem dL_law_299 : decode cL_law 299 = .ok (.iaload, 1) := by decide +kernel
theorem dL_law_300 : decode cL_law 300 = .ok (.aload_n 0, 1) := by decide +kernel
theorem dL_law_301 : decode cL_law 301 = .ok (.iload 5, 2) := by decide +kernel
theorem dL_law_303 : decode cL_law 303 = .ok (.iconst 2, 1) := by decide +kernel
theorem dL_law_304 : decode cL_law 304 = .ok (.iadd, 1) := by decide +kernel
theorem dL_law_305 : decode cL_law 305 = .ok (.iaload, 1) := by decide +kernel
theorem dL_law_306 : decode cL_law 306 = .ok (.aload_n 3, 1) := by decide +kernel
theorem dL_law_307 : decode cL_law 307 = .ok (.invokestatic 87, 3) := by decide +kernel
theorem dL_law_310 : decode cL_law 310 = .ok (.istore 6, 2) := by decide +kernel
theorem dL_law_312 : decode cL_law 312 = .ok (.aload_n 2, 1) := by decide +kernel
theorem dL_law_313 : decode cL_law 313 = .ok (.aload_n 0, 1) := by decide +kernel
theorem dL_law_314 : decode cL_law 314 = .ok (.iload 5, 2) := by decide +kernel
theorem dL_law_316 : decode cL_law 316 = .ok (.iconst 1, 1) := by decide +kernel
theorem dL_law_317 : decode cL_law 317 = .ok (.iadd, 1) := by decide +kernel
theorem dL_law_318 : decode cL_law 318 = .ok (.iaload, 1) := by decide +kernel
theorem dL_law_319 : decode cL_law 319 = .ok (.aload_n 0, 1) := by decide +kernel
theorem dL_law_320 : decode cL_law 320 = .ok (.iload 5, 2) := by decide +kernel
theorem dL_law_322 : decode cL_law 322 = .ok (.iconst 2, 1) := by decide +kernel
theorem dL_law_323 : decode cL_law 323 = .ok (.iadd, 1) := by decide +kernel
theorem dL_law_324 : decode cL_law 324 = .ok (.iaload, 1) := by decide +kernel
theorem dL_law_325 : decode cL_law 325 = .ok (.invokevirtual 89, 3) := by decide +kernel
theorem dL_law_328 : decode cL_law 328 = .ok (.istore 7, 2) := by decide +kernel
theorem dL_law_330 : decode cL_law 330 = .ok (.aload_n 2, 1) := by decide +kernel
theorem dL_law_331 : decode cL_law 331 = .ok (.invokevirtual 75, 3) := by decide +kernel
theorem dL_law_334 : decode cL_law 334 = .ok (.iload 6, 2) := by decide +kernel
theorem dL_law_336 : decode cL_law 336 = .ok (.if_icmp .eq 5, 3) := by decide +kernel
theorem dL_law_339 : decode cL_law 339 = .ok (.iconst 0, 1) := by decide +kernel
theorem dL_law_340 : decode cL_law 340 = .ok (.ireturn, 1) := by decide +kernel
theorem dL_law_341 : decode cL_law 341 = .ok (.iload 6, 2) := by decide +kernel
theorem dL_law_343 : decode cL_law 343 = .ok (.ifCond .ne 15, 3) := by decide +kernel
theorem dL_law_346 : decode cL_law 346 = .ok (.aload_n 3, 1) := by decide +kernel
theorem dL_law_347 : decode cL_law 347 = .ok (.iconst 0, 1) := by decide +kernel
theorem dL_law_348 : decode cL_law 348 = .ok (.laload, 1) := by decide +kernel
theorem dL_law_349 : decode cL_law 349 = .ok (.iload 7, 2) := by decide +kernel
theorem dL_law_351 : decode cL_law 351 = .ok (.i2l, 1) := by decide +kernel
theorem dL_law_352 : decode cL_law 352 = .ok (.lcmp, 1) := by decide +kernel
theorem dL_law_353 : decode cL_law 353 = .ok (.ifCond .eq 5, 3) := by decide +kernel
theorem dL_law_356 : decode cL_law 356 = .ok (.iconst 0, 1) := by decide +kernel
theorem dL_law_357 : decode cL_law 357 = .ok (.ireturn, 1) := by decide +kernel
theorem dL_law_358 : decode cL_law 358 = .ok (.goto 997, 3) := by decide +kernel
theorem dL_law_361 : decode cL_law 361 = .ok (.aload_n 1, 1) := by decide +kernel
theorem dL_law_362 : decode cL_law 362 = .ok (.aload_n 0, 1) := by decide +kernel
theorem dL_law_363 : decode cL_law 363 = .ok (.iload 5, 2) := by decide +kernel
theorem dL_law_365 : decode cL_law 365 = .ok (.iconst 1, 1) := by decide +kernel
theorem dL_law_366 : decode cL_law 366 = .ok (.iadd, 1) := by decide +kernel
theorem dL_law_367 : decode cL_law 367 = .ok (.iaload, 1) := by decide +kernel
theorem dL_law_368 : decode cL_law 368 = .ok (.aload_n 0, 1) := by decide +kernel
theorem dL_law_369 : decode cL_law 369 = .ok (.iload 5, 2) := by decide +kernel
theorem dL_law_371 : decode cL_law 371 = .ok (.iconst 2, 1) := by decide +kernel
theorem dL_law_372 : decode cL_law 372 = .ok (.iadd, 1) := by decide +kernel
theorem dL_law_373 : decode cL_law 373 = .ok (.iaload, 1) := by decide +kernel
theorem dL_law_374 : decode cL_law 374 = .ok (.aload_n 0, 1) := by decide +kernel
theorem dL_law_375 : decode cL_law 375 = .ok (.iload 5, 2) := by decide +kernel
theorem dL_law_377 : decode cL_law 377 = .ok (.iconst 3, 1) := by decide +kernel
theorem dL_law_378 : decode cL_law 378 = .ok (.iadd, 1) := by decide +kernel
theorem dL_law_379 : decode cL_law 379 = .ok (.iaload, 1) := by decide +kernel
theorem dL_law_380 : decode cL_law 380 = .ok (.aload_n 3, 1) := by decide +kernel
theorem dL_law_381 : decode cL_law 381 = .ok (.invokestatic 90, 3) := by decide +kernel
theorem dL_law_384 : decode cL_law 384 = .ok (.istore 6, 2) := by decide +kernel
theorem dL_law_386 : decode cL_law 386 = .ok (.aload_n 2, 1) := by decide +kernel
theorem dL_law_387 : decode cL_law 387 = .ok (.aload_n 0, 1) := by decide +kernel
theorem dL_law_388 : decode cL_law 388 = .ok (.iload 5, 2) := by decide +kernel
theorem dL_law_390 : decode cL_law 390 = .ok (.iconst 1, 1) := by decide +kernel
theorem dL_law_391 : decode cL_law 391 = .ok (.iadd, 1) := by decide +kernel
theorem dL_law_392 : decode cL_law 392 = .ok (.iaload, 1) := by decide +kernel
theorem dL_law_393 : decode cL_law 393 = .ok (.aload_n 0, 1) := by decide +kernel
theorem dL_law_394 : decode cL_law 394 = .ok (.iload 5, 2) := by decide +kernel
theorem dL_law_396 : decode cL_law 396 = .ok (.iconst 2, 1) := by decide +kernel
theorem dL_law_397 : decode cL_law 397 = .ok (.iadd, 1) := by decide +kernel
theorem dL_law_398 : decode cL_law 398 = .ok (.iaload, 1) := by decide +kernel
theorem dL_law_399 : decode cL_law 399 = .ok (.aload_n 0, 1) := by decide +kernel
theorem dL_law_400 : decode cL_law 400 = .ok (.iload 5, 2) := by decide +kernel
theorem dL_law_402 : decode cL_law 402 = .ok (.iconst 3, 1) := by decide +kernel
theorem dL_law_403 : decode cL_law 403 = .ok (.iadd, 1) := by decide +kernel
theorem dL_law_404 : decode cL_law 404 = .ok (.iaload, 1) := by decide +kernel
theorem dL_law_405 : decode cL_law 405 = .ok (.invokevirtual 93, 3) := by decide +kernel
theorem dL_law_408 : decode cL_law 408 = .ok (.istore 7, 2) := by decide +kernel
theorem dL_law_410 : decode cL_law 410 = .ok (.aload_n 2, 1) := by decide +kernel
theorem dL_law_411 : decode cL_law 411 = .ok (.invokevirtual 75, 3) := by decide +kernel
theorem dL_law_414 : decode cL_law 414 = .ok (.iload 6, 2) := by decide +kernel
theorem dL_law_416 : decode cL_law 416 = .ok (.if_icmp .eq 5, 3) := by decide +kernel
theorem dL_law_419 : decode cL_law 419 = .ok (.iconst 0, 1) := by decide +kernel
theorem dL_law_420 : decode cL_law 420 = .ok (.ireturn, 1) := by decide +kernel
theorem dL_law_421 : decode cL_law 421 = .ok (.iload 6, 2) := by decide +kernel
theorem dL_law_423 : decode cL_law 423 = .ok (.ifCond .ne 15, 3) := by decide +kernel
theorem dL_law_426 : decode cL_law 426 = .ok (.aload_n 3, 1) := by decide +kernel
theorem dL_law_427 : decode cL_law 427 = .ok (.iconst 0, 1) := by decide +kernel
theorem dL_law_428 : decode cL_law 428 = .ok (.laload, 1) := by decide +kernel
theorem dL_law_429 : decode cL_law 429 = .ok (.iload 7, 2) := by decide +kernel
theorem dL_law_431 : decode cL_law 431 = .ok (.i2l, 1) := by decide +kernel
theorem dL_law_432 : decode cL_law 432 = .ok (.lcmp, 1) := by decide +kernel
theorem dL_law_433 : decode cL_law 433 = .ok (.ifCond .eq 5, 3) := by decide +kernel
theorem dL_law_436 : decode cL_law 436 = .ok (.iconst 0, 1) := by decide +kernel
theorem dL_law_437 : decode cL_law 437 = .ok (.ireturn, 1) := by decide +kernel
theorem dL_law_438 : decode cL_law 438 = .ok (.goto 917, 3) := by decide +kernel
theorem dL_law_441 : decode cL_law 441 = .ok (.aload_n 1, 1) := by decide +kernel
theorem dL_law_442 : decode cL_law 442 = .ok (.aload_n 0, 1) := by decide +kernel
theorem dL_law_443 : decode cL_law 443 = .ok (.iload 5, 2) := by decide +kernel
theorem dL_law_445 : decode cL_law 445 = .ok (.iconst 1, 1) := by decide +kernel
theorem dL_law_446 : decode cL_law 446 = .ok (.iadd, 1) := by decide +kernel
theorem dL_law_447 : decode cL_law 447 = .ok (.iaload, 1) := by decide +kernel
theorem dL_law_448 : decode cL_law 448 = .ok (.aload_n 3, 1) := by decide +kernel
theorem dL_law_449 : decode cL_law 449 = .ok (.invokestatic 94, 3) := by decide +kernel
theorem dL_law_452 : decode cL_law 452 = .ok (.istore 6, 2) := by decide +kernel
theorem dL_law_454 : decode cL_law 454 = .ok (.aload_n 2, 1) := by decide +kernel
theorem dL_law_455 : decode cL_law 455 = .ok (.aload_n 0, 1) := by decide +kernel
theorem dL_law_456 : decode cL_law 456 = .ok (.iload 5, 2) := by decide +kernel
theorem dL_law_458 : decode cL_law 458 = .ok (.iconst 1, 1) := by decide +kernel
theorem dL_law_459 : decode cL_law 459 = .ok (.iadd, 1) := by decide +kernel
theorem dL_law_460 : decode cL_law 460 = .ok (.iaload, 1) := by decide +kernel
theorem dL_law_461 : decode cL_law 461 = .ok (.invokevirtual 96, 3) := by decide +kernel
theorem dL_law_464 : decode cL_law 464 = .ok (.istore 7, 2) := by decide +kernel
theorem dL_law_466 : decode cL_law 466 = .ok (.aload_n 2, 1) := by decide +kernel
theorem dL_law_467 : decode cL_law 467 = .ok (.invokevirtual 75, 3) := by decide +kernel
theorem dL_law_470 : decode cL_law 470 = .ok (.iload 6, 2) := by decide +kernel
theorem dL_law_472 : decode cL_law 472 = .ok (.if_icmp .eq 5, 3) := by decide +kernel
theorem dL_law_475 : decode cL_law 475 = .ok (.iconst 0, 1) := by decide +kernel
theorem dL_law_476 : decode cL_law 476 = .ok (.ireturn, 1) := by decide +kernel
theorem dL_law_477 : decode cL_law 477 = .ok (.iload 6, 2) := by decide +kernel
theorem dL_law_479 : decode cL_law 479 = .ok (.ifCond .ne 15, 3) := by decide +kernel
theorem dL_law_482 : decode cL_law 482 = .ok (.aload_n 3, 1) := by decide +kernel
theorem dL_law_483 : decode cL_law 483 = .ok (.iconst 0, 1) := by decide +kernel
theorem dL_law_484 : decode cL_law 484 = .ok (.laload, 1) := by decide +kernel
theorem dL_law_485 : decode cL_law 485 = .ok (.iload 7, 2) := by decide +kernel
theorem dL_law_487 : decode cL_law 487 = .ok (.i2l, 1) := by decide +kernel
theorem dL_law_488 : decode cL_law 488 = .ok (.lcmp, 1) := by decide +kernel
theorem dL_law_489 : decode cL_law 489 = .ok (.ifCond .eq 5, 3) := by decide +kernel
theorem dL_law_492 : decode cL_law 492 = .ok (.iconst 0, 1) := by decide +kernel
theorem dL_law_493 : decode cL_law 493 = .ok (.ireturn, 1) := by decide +kernel
theorem dL_law_494 : decode cL_law 494 = .ok (.goto 861, 3) := by decide +kernel
theorem dL_law_497 : decode cL_law 497 = .ok (.aload_n 1, 1) := by decide +kernel
theorem dL_law_498 : decode cL_law 498 = .ok (.invokevirtual 97, 3) := by decide +kernel
theorem dL_law_501 : decode cL_law 501 = .ok (.aload_n 2, 1) := by decide +kernel
theorem dL_law_502 : decode cL_law 502 = .ok (.invokevirtual 100, 3) := by decide +kernel
theorem dL_law_505 : decode cL_law 505 = .ok (.if_icmp .eq 850, 3) := by decide +kernel
theorem dL_law_508 : decode cL_law 508 = .ok (.iconst 0, 1) := by decide +kernel
theorem dL_law_509 : decode cL_law 509 = .ok (.ireturn, 1) := by decide +kernel
theorem dL_law_510 : decode cL_law 510 = .ok (.aload_n 1, 1) := by decide +kernel
theorem dL_law_511 : decode cL_law 511 = .ok (.invokevirtual 101, 3) := by decide +kernel
theorem dL_law_514 : decode cL_law 514 = .ok (.aload_n 2, 1) := by decide +kernel
theorem dL_law_515 : decode cL_law 515 = .ok (.invokevirtual 105, 3) := by decide +kernel
theorem dL_law_518 : decode cL_law 518 = .ok (.if_icmp .eq 837, 3) := by decide +kernel
theorem dL_law_521 : decode cL_law 521 = .ok (.iconst 0, 1) := by decide +kernel
theorem dL_law_522 : decode cL_law 522 = .ok (.ireturn, 1) := by decide +kernel
theorem dL_law_523 : decode cL_law 523 = .ok (.aload_n 1, 1) := by decide +kernel
theorem dL_law_524 : decode cL_law 524 = .ok (.invokevirtual 106, 3) := by decide +kernel
theorem dL_law_527 : decode cL_law 527 = .ok (.aload_n 2, 1) := by decide +kernel
theorem dL_law_528 : decode cL_law 528 = .ok (.invokevirtual 109, 3) := by decide +kernel
theorem dL_law_531 : decode cL_law 531 = .ok (.if_icmp .eq 824, 3) := by decide +kernel
theorem dL_law_534 : decode cL_law 534 = .ok (.iconst 0, 1) := by decide +kernel
theorem dL_law_535 : decode cL_law 535 = .ok (.ireturn, 1) := by decide +kernel
theorem dL_law_536 : decode cL_law 536 = .ok (.aload_n 1, 1) := by decide +kernel
theorem dL_law_537 : decode cL_law 537 = .ok (.aload_n 0, 1) := by decide +kernel
theorem dL_law_538 : decode cL_law 538 = .ok (.iload 5, 2) := by decide +kernel
theorem dL_law_540 : decode cL_law 540 = .ok (.iconst 1, 1) := by decide +kernel
theorem dL_law_541 : decode cL_law 541 = .ok (.iadd, 1) := by decide +kernel
theorem dL_law_542 : decode cL_law 542 = .ok (.iaload, 1) := by decide +kernel
theorem dL_law_543 : decode cL_law 543 = .ok (.aload_n 3, 1) := by decide +kernel
theorem dL_law_544 : decode cL_law 544 = .ok (.invokestatic 110, 3) := by decide +kernel
theorem dL_law_547 : decode cL_law 547 = .ok (.istore 6, 2) := by decide +kernel
theorem dL_law_549 : decode cL_law 549 = .ok (.aload_n 2, 1) := by decide +kernel
theorem dL_law_550 : decode cL_law 550 = .ok (.aload_n 0, 1) := by decide +kernel
theorem dL_law_551 : decode cL_law 551 = .ok (.iload 5, 2) := by decide +kernel
theorem dL_law_553 : decode cL_law 553 = .ok (.iconst 1, 1) := by decide +kernel
theorem dL_law_554 : decode cL_law 554 = .ok (.iadd, 1) := by decide +kernel
theorem dL_law_555 : decode cL_law 555 = .ok (.iaload, 1) := by decide +kernel
theorem dL_law_556 : decode cL_law 556 = .ok (.invokevirtual 112, 3) := by decide +kernel
theorem dL_law_559 : decode cL_law 559 = .ok (.istore 7, 2) := by decide +kernel
theorem dL_law_561 : decode cL_law 561 = .ok (.aload_n 2, 1) := by decide +kernel
theorem dL_law_562 : decode cL_law 562 = .ok (.invokevirtual 75, 3) := by decide +kernel
theorem dL_law_565 : decode cL_law 565 = .ok (.iload 6, 2) := by decide +kernel
theorem dL_law_567 : decode cL_law 567 = .ok (.if_icmp .eq 5, 3) := by decide +kernel
theorem dL_law_570 : decode cL_law 570 = .ok (.iconst 0, 1) := by decide +kernel
theorem dL_law_571 : decode cL_law 571 = .ok (.ireturn, 1) := by decide +kernel
theorem dL_law_572 : decode cL_law 572 = .ok (.iload 6, 2) := by decide +kernel
theorem dL_law_574 : decode cL_law 574 = .ok (.ifCond .ne 15, 3) := by decide +kernel
theorem dL_law_577 : decode cL_law 577 = .ok (.aload_n 3, 1) := by decide +kernel
theorem dL_law_578 : decode cL_law 578 = .ok (.iconst 0, 1) := by decide +kernel
theorem dL_law_579 : decode cL_law 579 = .ok (.laload, 1) := by decide +kernel
theorem dL_law_580 : decode cL_law 580 = .ok (.iload 7, 2) := by decide +kernel
theorem dL_law_582 : decode cL_law 582 = .ok (.i2l, 1) := by decide +kernel
theorem dL_law_583 : decode cL_law 583 = .ok (.lcmp, 1) := by decide +kernel
theorem dL_law_584 : decode cL_law 584 = .ok (.ifCond .eq 5, 3) := by decide +kernel
theorem dL_law_587 : decode cL_law 587 = .ok (.iconst 0, 1) := by decide +kernel
theorem dL_law_588 : decode cL_law 588 = .ok (.ireturn, 1) := by decide +kernel
theorem dL_law_589 : decode cL_law 589 = .ok (.goto 766, 3) := by decide +kernel
theorem dL_law_592 : decode cL_law 592 = .ok (.aload_n 1, 1) := by decide +kernel
theorem dL_law_593 : decode cL_law 593 = .ok (.aload_n 0, 1) := by decide +kernel
theorem dL_law_594 : decode cL_law 594 = .ok (.iload 5, 2) := by decide +kernel
theorem dL_law_596 : decode cL_law 596 = .ok (.iconst 1, 1) := by decide +kernel
theorem dL_law_597 : decode cL_law 597 = .ok (.iadd, 1) := by decide +kernel
theorem dL_law_598 : decode cL_law 598 = .ok (.iaload, 1) := by decide +kernel
theorem dL_law_599 : decode cL_law 599 = .ok (.aload_n 3, 1) := by decide +kernel
theorem dL_law_600 : decode cL_law 600 = .ok (.invokestatic 113, 3) := by decide +kernel
theorem dL_law_603 : decode cL_law 603 = .ok (.istore 6, 2) := by decide +kernel
theorem dL_law_605 : decode cL_law 605 = .ok (.aload_n 2, 1) := by decide +kernel
theorem dL_law_606 : decode cL_law 606 = .ok (.aload_n 0, 1) := by decide +kernel
theorem dL_law_607 : decode cL_law 607 = .ok (.iload 5, 2) := by decide +kernel
theorem dL_law_609 : decode cL_law 609 = .ok (.iconst 1, 1) := by decide +kernel
theorem dL_law_610 : decode cL_law 610 = .ok (.iadd, 1) := by decide +kernel
theorem dL_law_611 : decode cL_law 611 = .ok (.iaload, 1) := by decide +kernel
theorem dL_law_612 : decode cL_law 612 = .ok (.invokevirtual 115, 3) := by decide +kernel
theorem dL_law_615 : decode cL_law 615 = .ok (.istore 7, 2) := by decide +kernel
theorem dL_law_617 : decode cL_law 617 = .ok (.aload_n 2, 1) := by decide +kernel
theorem dL_law_618 : decode cL_law 618 = .ok (.invokevirtual 75, 3) := by decide +kernel
theorem dL_law_621 : decode cL_law 621 = .ok (.iload 6, 2) := by decide +kernel
theorem dL_law_623 : decode cL_law 623 = .ok (.if_icmp .eq 5, 3) := by decide +kernel
theorem dL_law_626 : decode cL_law 626 = .ok (.iconst 0, 1) := by decide +kernel
theorem dL_law_627 : decode cL_law 627 = .ok (.ireturn, 1) := by decide +kernel
theorem dL_law_628 : decode cL_law 628 = .ok (.iload 6, 2) := by decide +kernel
theorem dL_law_630 : decode cL_law 630 = .ok (.ifCond .ne 15, 3) := by decide +kernel
theorem dL_law_633 : decode cL_law 633 = .ok (.aload_n 3, 1) := by decide +kernel
theorem dL_law_634 : decode cL_law 634 = .ok (.iconst 0, 1) := by decide +kernel
theorem dL_law_635 : decode cL_law 635 = .ok (.laload, 1) := by decide +kernel
theorem dL_law_636 : decode cL_law 636 = .ok (.iload 7, 2) := by decide +kernel
theorem dL_law_638 : decode cL_law 638 = .ok (.i2l, 1) := by decide +kernel
theorem dL_law_639 : decode cL_law 639 = .ok (.lcmp, 1) := by decide +kernel
theorem dL_law_640 : decode cL_law 640 = .ok (.ifCond .eq 5, 3) := by decide +kernel
theorem dL_law_643 : decode cL_law 643 = .ok (.iconst 0, 1) := by decide +kernel
theorem dL_law_644 : decode cL_law 644 = .ok (.ireturn, 1) := by decide +kernel
theorem dL_law_645 : decode cL_law 645 = .ok (.goto 710, 3) := by decide +kernel
theorem dL_law_648 : decode cL_law 648 = .ok (.aload_n 1, 1) := by decide +kernel
theorem dL_law_649 : decode cL_law 649 = .ok (.aload_n 0, 1) := by decide +kernel
theorem dL_law_650 : decode cL_law 650 = .ok (.iload 5, 2) := by decide +kernel
theorem dL_law_652 : decode cL_law 652 = .ok (.iconst 1, 1) := by decide +kernel
theorem dL_law_653 : decode cL_law 653 = .ok (.iadd, 1) := by decide +kernel
theorem dL_law_654 : decode cL_law 654 = .ok (.iaload, 1) := by decide +kernel
theorem dL_law_655 : decode cL_law 655 = .ok (.aload_n 0, 1) := by decide +kernel
theorem dL_law_656 : decode cL_law 656 = .ok (.iload 5, 2) := by decide +kernel
theorem dL_law_658 : decode cL_law 658 = .ok (.iconst 2, 1) := by decide +kernel
theorem dL_law_659 : decode cL_law 659 = .ok (.iadd, 1) := by decide +kernel
theorem dL_law_660 : decode cL_law 660 = .ok (.iaload, 1) := by decide +kernel
theorem dL_law_661 : decode cL_law 661 = .ok (.aload_n 3, 1) := by decide +kernel
theorem dL_law_662 : decode cL_law 662 = .ok (.invokestatic 116, 3) := by decide +kernel
theorem dL_law_665 : decode cL_law 665 = .ok (.istore 6, 2) := by decide +kernel
theorem dL_law_667 : decode cL_law 667 = .ok (.aload_n 2, 1) := by decide +kernel
theorem dL_law_668 : decode cL_law 668 = .ok (.aload_n 0, 1) := by decide +kernel
theorem dL_law_669 : decode cL_law 669 = .ok (.iload 5, 2) := by decide +kernel
theorem dL_law_671 : decode cL_law 671 = .ok (.iconst 1, 1) := by decide +kernel
theorem dL_law_672 : decode cL_law 672 = .ok (.iadd, 1) := by decide +kernel
theorem dL_law_673 : decode cL_law 673 = .ok (.iaload, 1) := by decide +kernel
theorem dL_law_674 : decode cL_law 674 = .ok (.aload_n 0, 1) := by decide +kernel
theorem dL_law_675 : decode cL_law 675 = .ok (.iload 5, 2) := by decide +kernel
theorem dL_law_677 : decode cL_law 677 = .ok (.iconst 2, 1) := by decide +kernel
theorem dL_law_678 : decode cL_law 678 = .ok (.iadd, 1) := by decide +kernel
theorem dL_law_679 : decode cL_law 679 = .ok (.iaload, 1) := by decide +kernel
theorem dL_law_680 : decode cL_law 680 = .ok (.invokevirtual 118, 3) := by decide +kernel
theorem dL_law_683 : decode cL_law 683 = .ok (.istore 7, 2) := by decide +kernel
theorem dL_law_685 : decode cL_law 685 = .ok (.aload_n 2, 1) := by decide +kernel
theorem dL_law_686 : decode cL_law 686 = .ok (.invokevirtual 75, 3) := by decide +kernel
theorem dL_law_689 : decode cL_law 689 = .ok (.iload 6, 2) := by decide +kernel
theorem dL_law_691 : decode cL_law 691 = .ok (.if_icmp .eq 5, 3) := by decide +kernel
theorem dL_law_694 : decode cL_law 694 = .ok (.iconst 0, 1) := by decide +kernel
theorem dL_law_695 : decode cL_law 695 = .ok (.ireturn, 1) := by decide +kernel
theorem dL_law_696 : decode cL_law 696 = .ok (.iload 6, 2) := by decide +kernel
theorem dL_law_698 : decode cL_law 698 = .ok (.ifCond .ne 15, 3) := by decide +kernel
theorem dL_law_701 : decode cL_law 701 = .ok (.aload_n 3, 1) := by decide +kernel
theorem dL_law_702 : decode cL_law 702 = .ok (.iconst 0, 1) := by decide +kernel
theorem dL_law_703 : decode cL_law 703 = .ok (.laload, 1) := by decide +kernel
theorem dL_law_704 : decode cL_law 704 = .ok (.iload 7, 2) := by decide +kernel
theorem dL_law_706 : decode cL_law 706 = .ok (.i2l, 1) := by decide +kernel
theorem dL_law_707 : decode cL_law 707 = .ok (.lcmp, 1) := by decide +kernel
theorem dL_law_708 : decode cL_law 708 = .ok (.ifCond .eq 5, 3) := by decide +kernel
theorem dL_law_711 : decode cL_law 711 = .ok (.iconst 0, 1) := by decide +kernel
theorem dL_law_712 : decode cL_law 712 = .ok (.ireturn, 1) := by decide +kernel
theorem dL_law_713 : decode cL_law 713 = .ok (.goto 642, 3) := by decide +kernel
theorem dL_law_716 : decode cL_law 716 = .ok (.aload_n 1, 1) := by decide +kernel
theorem dL_law_717 : decode cL_law 717 = .ok (.invokevirtual 119, 3) := by decide +kernel
theorem dL_law_720 : decode cL_law 720 = .ok (.aload_n 2, 1) := by decide +kernel
theorem dL_law_721 : decode cL_law 721 = .ok (.invokevirtual 122, 3) := by decide +kernel
theorem dL_law_724 : decode cL_law 724 = .ok (.if_icmp .eq 631, 3) := by decide +kernel
theorem dL_law_727 : decode cL_law 727 = .ok (.iconst 0, 1) := by decide +kernel
theorem dL_law_728 : decode cL_law 728 = .ok (.ireturn, 1) := by decide +kernel
theorem dL_law_729 : decode cL_law 729 = .ok (.aload_n 1, 1) := by decide +kernel
end
section
theorem dL_law_730 : decode cL_law 730 = .ok (.invokevirtual 123, 3) := by decide +kernel
theorem dL_law_733 : decode cL_law 733 = .ok (.aload_n 2, 1) := by decide +kernel
theorem dL_law_734 : decode cL_law 734 = .ok (.invokevirtual 126, 3) := by decide +kernel
theorem dL_law_737 : decode cL_law 737 = .ok (.if_icmp .eq 618, 3) := by decide +kernel
theorem dL_law_740 : decode cL_law 740 = .ok (.iconst 0, 1) := by decide +kernel
theorem dL_law_741 : decode cL_law 741 = .ok (.ireturn, 1) := by decide +kernel
theorem dL_law_742 : decode cL_law 742 = .ok (.aload_n 1, 1) := by decide +kernel
theorem dL_law_743 : decode cL_law 743 = .ok (.aload_n 0, 1) := by decide +kernel
theorem dL_law_744 : decode cL_law 744 = .ok (.iload 5, 2) := by decide +kernel
theorem dL_law_746 : decode cL_law 746 = .ok (.iconst 1, 1) := by decide +kernel
theorem dL_law_747 : decode cL_law 747 = .ok (.iadd, 1) := by decide +kernel
theorem dL_law_748 : decode cL_law 748 = .ok (.iaload, 1) := by decide +kernel
theorem dL_law_749 : decode cL_law 749 = .ok (.aload_n 0, 1) := by decide +kernel
theorem dL_law_750 : decode cL_law 750 = .ok (.iload 5, 2) := by decide +kernel
theorem dL_law_752 : decode cL_law 752 = .ok (.iconst 2, 1) := by decide +kernel
theorem dL_law_753 : decode cL_law 753 = .ok (.iadd, 1) := by decide +kernel
theorem dL_law_754 : decode cL_law 754 = .ok (.iaload, 1) := by decide +kernel
theorem dL_law_755 : decode cL_law 755 = .ok (.aload 4, 2) := by decide +kernel
theorem dL_law_757 : decode cL_law 757 = .ok (.invokestatic 127, 3) := by decide +kernel
theorem dL_law_760 : decode cL_law 760 = .ok (.istore 6, 2) := by decide +kernel
theorem dL_law_762 : decode cL_law 762 = .ok (.aload_n 2, 1) := by decide +kernel
theorem dL_law_763 : decode cL_law 763 = .ok (.aload_n 0, 1) := by decide +kernel
theorem dL_law_764 : decode cL_law 764 = .ok (.iload 5, 2) := by decide +kernel
theorem dL_law_766 : decode cL_law 766 = .ok (.iconst 1, 1) := by decide +kernel
theorem dL_law_767 : decode cL_law 767 = .ok (.iadd, 1) := by decide +kernel
theorem dL_law_768 : decode cL_law 768 = .ok (.iaload, 1) := by decide +kernel
theorem dL_law_769 : decode cL_law 769 = .ok (.aload_n 0, 1) := by decide +kernel
theorem dL_law_770 : decode cL_law 770 = .ok (.iload 5, 2) := by decide +kernel
theorem dL_law_772 : decode cL_law 772 = .ok (.iconst 2, 1) := by decide +kernel
theorem dL_law_773 : decode cL_law 773 = .ok (.iadd, 1) := by decide +kernel
theorem dL_law_774 : decode cL_law 774 = .ok (.iaload, 1) := by decide +kernel
theorem dL_law_775 : decode cL_law 775 = .ok (.invokevirtual 130, 3) := by decide +kernel
theorem dL_law_778 : decode cL_law 778 = .ok (.dstore 7, 2) := by decide +kernel
theorem dL_law_780 : decode cL_law 780 = .ok (.aload_n 2, 1) := by decide +kernel
theorem dL_law_781 : decode cL_law 781 = .ok (.invokevirtual 75, 3) := by decide +kernel
theorem dL_law_784 : decode cL_law 784 = .ok (.iload 6, 2) := by decide +kernel
theorem dL_law_786 : decode cL_law 786 = .ok (.if_icmp .eq 5, 3) := by decide +kernel
theorem dL_law_789 : decode cL_law 789 = .ok (.iconst 0, 1) := by decide +kernel
theorem dL_law_790 : decode cL_law 790 = .ok (.ireturn, 1) := by decide +kernel
theorem dL_law_791 : decode cL_law 791 = .ok (.iload 6, 2) := by decide +kernel
theorem dL_law_793 : decode cL_law 793 = .ok (.ifCond .ne 35, 3) := by decide +kernel
theorem dL_law_796 : decode cL_law 796 = .ok (.aload 4, 2) := by decide +kernel
theorem dL_law_798 : decode cL_law 798 = .ok (.iconst 0, 1) := by decide +kernel
theorem dL_law_799 : decode cL_law 799 = .ok (.daload, 1) := by decide +kernel
theorem dL_law_800 : decode cL_law 800 = .ok (.dload 7, 2) := by decide +kernel
theorem dL_law_802 : decode cL_law 802 = .ok (.dcmp .l, 1) := by decide +kernel
theorem dL_law_803 : decode cL_law 803 = .ok (.ifCond .eq 25, 3) := by decide +kernel
theorem dL_law_806 : decode cL_law 806 = .ok (.aload 4, 2) := by decide +kernel
theorem dL_law_808 : decode cL_law 808 = .ok (.iconst 0, 1) := by decide +kernel
theorem dL_law_809 : decode cL_law 809 = .ok (.daload, 1) := by decide +kernel
theorem dL_law_810 : decode cL_law 810 = .ok (.aload 4, 2) := by decide +kernel
theorem dL_law_812 : decode cL_law 812 = .ok (.iconst 0, 1) := by decide +kernel
theorem dL_law_813 : decode cL_law 813 = .ok (.daload, 1) := by decide +kernel
theorem dL_law_814 : decode cL_law 814 = .ok (.dcmp .l, 1) := by decide +kernel
theorem dL_law_815 : decode cL_law 815 = .ok (.ifCond .eq 11, 3) := by decide +kernel
theorem dL_law_818 : decode cL_law 818 = .ok (.dload 7, 2) := by decide +kernel
theorem dL_law_820 : decode cL_law 820 = .ok (.dload 7, 2) := by decide +kernel
theorem dL_law_822 : decode cL_law 822 = .ok (.dcmp .l, 1) := by decide +kernel
theorem dL_law_823 : decode cL_law 823 = .ok (.ifCond .ne 5, 3) := by decide +kernel
theorem dL_law_826 : decode cL_law 826 = .ok (.iconst 0, 1) := by decide +kernel
theorem dL_law_827 : decode cL_law 827 = .ok (.ireturn, 1) := by decide +kernel
theorem dL_law_828 : decode cL_law 828 = .ok (.goto 527, 3) := by decide +kernel
theorem dL_law_831 : decode cL_law 831 = .ok (.aload_n 1, 1) := by decide +kernel
theorem dL_law_832 : decode cL_law 832 = .ok (.aload_n 0, 1) := by decide +kernel
theorem dL_law_833 : decode cL_law 833 = .ok (.iload 5, 2) := by decide +kernel
theorem dL_law_835 : decode cL_law 835 = .ok (.iconst 1, 1) := by decide +kernel
theorem dL_law_836 : decode cL_law 836 = .ok (.iadd, 1) := by decide +kernel
theorem dL_law_837 : decode cL_law 837 = .ok (.iaload, 1) := by decide +kernel
theorem dL_law_838 : decode cL_law 838 = .ok (.aload_n 0, 1) := by decide +kernel
theorem dL_law_839 : decode cL_law 839 = .ok (.iload 5, 2) := by decide +kernel
theorem dL_law_841 : decode cL_law 841 = .ok (.iconst 2, 1) := by decide +kernel
theorem dL_law_842 : decode cL_law 842 = .ok (.iadd, 1) := by decide +kernel
theorem dL_law_843 : decode cL_law 843 = .ok (.iaload, 1) := by decide +kernel
theorem dL_law_844 : decode cL_law 844 = .ok (.ifCond .eq 7, 3) := by decide +kernel
theorem dL_law_847 : decode cL_law 847 = .ok (.iconst 1, 1) := by decide +kernel
theorem dL_law_848 : decode cL_law 848 = .ok (.goto 4, 3) := by decide +kernel
theorem dL_law_851 : decode cL_law 851 = .ok (.iconst 0, 1) := by decide +kernel
theorem dL_law_852 : decode cL_law 852 = .ok (.aload 4, 2) := by decide +kernel
theorem dL_law_854 : decode cL_law 854 = .ok (.invokestatic 131, 3) := by decide +kernel
theorem dL_law_857 : decode cL_law 857 = .ok (.istore 6, 2) := by decide +kernel
theorem dL_law_859 : decode cL_law 859 = .ok (.aload_n 2, 1) := by decide +kernel
theorem dL_law_860 : decode cL_law 860 = .ok (.aload_n 0, 1) := by decide +kernel
theorem dL_law_861 : decode cL_law 861 = .ok (.iload 5, 2) := by decide +kernel
theorem dL_law_863 : decode cL_law 863 = .ok (.iconst 1, 1) := by decide +kernel
theorem dL_law_864 : decode cL_law 864 = .ok (.iadd, 1) := by decide +kernel
theorem dL_law_865 : decode cL_law 865 = .ok (.iaload, 1) := by decide +kernel
theorem dL_law_866 : decode cL_law 866 = .ok (.aload_n 0, 1) := by decide +kernel
theorem dL_law_867 : decode cL_law 867 = .ok (.iload 5, 2) := by decide +kernel
theorem dL_law_869 : decode cL_law 869 = .ok (.iconst 2, 1) := by decide +kernel
theorem dL_law_870 : decode cL_law 870 = .ok (.iadd, 1) := by decide +kernel
theorem dL_law_871 : decode cL_law 871 = .ok (.iaload, 1) := by decide +kernel
theorem dL_law_872 : decode cL_law 872 = .ok (.ifCond .eq 7, 3) := by decide +kernel
theorem dL_law_875 : decode cL_law 875 = .ok (.iconst 1, 1) := by decide +kernel
theorem dL_law_876 : decode cL_law 876 = .ok (.goto 4, 3) := by decide +kernel
theorem dL_law_879 : decode cL_law 879 = .ok (.iconst 0, 1) := by decide +kernel
theorem dL_law_880 : decode cL_law 880 = .ok (.invokevirtual 134, 3) := by decide +kernel
theorem dL_law_883 : decode cL_law 883 = .ok (.dstore 7, 2) := by decide +kernel
theorem dL_law_885 : decode cL_law 885 = .ok (.aload_n 2, 1) := by decide +kernel
theorem dL_law_886 : decode cL_law 886 = .ok (.invokevirtual 75, 3) := by decide +kernel
theorem dL_law_889 : decode cL_law 889 = .ok (.iload 6, 2) := by decide +kernel
theorem dL_law_891 : decode cL_law 891 = .ok (.if_icmp .eq 5, 3) := by decide +kernel
theorem dL_law_894 : decode cL_law 894 = .ok (.iconst 0, 1) := by decide +kernel
theorem dL_law_895 : decode cL_law 895 = .ok (.ireturn, 1) := by decide +kernel
theorem dL_law_896 : decode cL_law 896 = .ok (.iload 6, 2) := by decide +kernel
theorem dL_law_898 : decode cL_law 898 = .ok (.ifCond .ne 35, 3) := by decide +kernel
theorem dL_law_901 : decode cL_law 901 = .ok (.aload 4, 2) := by decide +kernel
theorem dL_law_903 : decode cL_law 903 = .ok (.iconst 0, 1) := by decide +kernel
theorem dL_law_904 : decode cL_law 904 = .ok (.daload, 1) := by decide +kernel
theorem dL_law_905 : decode cL_law 905 = .ok (.dload 7, 2) := by decide +kernel
theorem dL_law_907 : decode cL_law 907 = .ok (.dcmp .l, 1) := by decide +kernel
theorem dL_law_908 : decode cL_law 908 = .ok (.ifCond .eq 25, 3) := by decide +kernel
theorem dL_law_911 : decode cL_law 911 = .ok (.aload 4, 2) := by decide +kernel
theorem dL_law_913 : decode cL_law 913 = .ok (.iconst 0, 1) := by decide +kernel
theorem dL_law_914 : decode cL_law 914 = .ok (.daload, 1) := by decide +kernel
theorem dL_law_915 : decode cL_law 915 = .ok (.aload 4, 2) := by decide +kernel
theorem dL_law_917 : decode cL_law 917 = .ok (.iconst 0, 1) := by decide +kernel
theorem dL_law_918 : decode cL_law 918 = .ok (.daload, 1) := by decide +kernel
theorem dL_law_919 : decode cL_law 919 = .ok (.dcmp .l, 1) := by decide +kernel
theorem dL_law_920 : decode cL_law 920 = .ok (.ifCond .eq 11, 3) := by decide +kernel
theorem dL_law_923 : decode cL_law 923 = .ok (.dload 7, 2) := by decide +kernel
theorem dL_law_925 : decode cL_law 925 = .ok (.dload 7, 2) := by decide +kernel
theorem dL_law_927 : decode cL_law 927 = .ok (.dcmp .l, 1) := by decide +kernel
theorem dL_law_928 : decode cL_law 928 = .ok (.ifCond .ne 5, 3) := by decide +kernel
theorem dL_law_931 : decode cL_law 931 = .ok (.iconst 0, 1) := by decide +kernel
theorem dL_law_932 : decode cL_law 932 = .ok (.ireturn, 1) := by decide +kernel
theorem dL_law_933 : decode cL_law 933 = .ok (.goto 422, 3) := by decide +kernel
theorem dL_law_936 : decode cL_law 936 = .ok (.aload_n 1, 1) := by decide +kernel
theorem dL_law_937 : decode cL_law 937 = .ok (.invokevirtual 135, 3) := by decide +kernel
theorem dL_law_940 : decode cL_law 940 = .ok (.dstore 6, 2) := by decide +kernel
theorem dL_law_942 : decode cL_law 942 = .ok (.aload_n 2, 1) := by decide +kernel
theorem dL_law_943 : decode cL_law 943 = .ok (.invokevirtual 139, 3) := by decide +kernel
theorem dL_law_946 : decode cL_law 946 = .ok (.dstore 8, 2) := by decide +kernel
theorem dL_law_948 : decode cL_law 948 = .ok (.dload 6, 2) := by decide +kernel
theorem dL_law_950 : decode cL_law 950 = .ok (.dload 8, 2) := by decide +kernel
theorem dL_law_952 : decode cL_law 952 = .ok (.dcmp .l, 1) := by decide +kernel
theorem dL_law_953 : decode cL_law 953 = .ok (.ifCond .eq 21, 3) := by decide +kernel
theorem dL_law_956 : decode cL_law 956 = .ok (.dload 6, 2) := by decide +kernel
theorem dL_law_958 : decode cL_law 958 = .ok (.dload 6, 2) := by decide +kernel
theorem dL_law_960 : decode cL_law 960 = .ok (.dcmp .l, 1) := by decide +kernel
theorem dL_law_961 : decode cL_law 961 = .ok (.ifCond .eq 11, 3) := by decide +kernel
theorem dL_law_964 : decode cL_law 964 = .ok (.dload 8, 2) := by decide +kernel
theorem dL_law_966 : decode cL_law 966 = .ok (.dload 8, 2) := by decide +kernel
theorem dL_law_968 : decode cL_law 968 = .ok (.dcmp .l, 1) := by decide +kernel
theorem dL_law_969 : decode cL_law 969 = .ok (.ifCond .ne 5, 3) := by decide +kernel
theorem dL_law_972 : decode cL_law 972 = .ok (.iconst 0, 1) := by decide +kernel
theorem dL_law_973 : decode cL_law 973 = .ok (.ireturn, 1) := by decide +kernel
theorem dL_law_974 : decode cL_law 974 = .ok (.goto 381, 3) := by decide +kernel
theorem dL_law_977 : decode cL_law 977 = .ok (.aload_n 1, 1) := by decide +kernel
theorem dL_law_978 : decode cL_law 978 = .ok (.aload_n 0, 1) := by decide +kernel
theorem dL_law_979 : decode cL_law 979 = .ok (.iload 5, 2) := by decide +kernel
theorem dL_law_981 : decode cL_law 981 = .ok (.iconst 1, 1) := by decide +kernel
theorem dL_law_982 : decode cL_law 982 = .ok (.iadd, 1) := by decide +kernel
theorem dL_law_983 : decode cL_law 983 = .ok (.iaload, 1) := by decide +kernel
theorem dL_law_984 : decode cL_law 984 = .ok (.aload_n 0, 1) := by decide +kernel
theorem dL_law_985 : decode cL_law 985 = .ok (.iload 5, 2) := by decide +kernel
theorem dL_law_987 : decode cL_law 987 = .ok (.iconst 2, 1) := by decide +kernel
theorem dL_law_988 : decode cL_law 988 = .ok (.iadd, 1) := by decide +kernel
theorem dL_law_989 : decode cL_law 989 = .ok (.iaload, 1) := by decide +kernel
theorem dL_law_990 : decode cL_law 990 = .ok (.aload 4, 2) := by decide +kernel
theorem dL_law_992 : decode cL_law 992 = .ok (.invokestatic 140, 3) := by decide +kernel
theorem dL_law_995 : decode cL_law 995 = .ok (.istore 6, 2) := by decide +kernel
theorem dL_law_997 : decode cL_law 997 = .ok (.aload_n 2, 1) := by decide +kernel
theorem dL_law_998 : decode cL_law 998 = .ok (.aload_n 0, 1) := by decide +kernel
theorem dL_law_999 : decode cL_law 999 = .ok (.iload 5, 2) := by decide +kernel
theorem dL_law_1001 : decode cL_law 1001 = .ok (.iconst 1, 1) := by decide +kernel
theorem dL_law_1002 : decode cL_law 1002 = .ok (.iadd, 1) := by decide +kernel
theorem dL_law_1003 : decode cL_law 1003 = .ok (.iaload, 1) := by decide +kernel
theorem dL_law_1004 : decode cL_law 1004 = .ok (.aload_n 0, 1) := by decide +kernel
theorem dL_law_1005 : decode cL_law 1005 = .ok (.iload 5, 2) := by decide +kernel
theorem dL_law_1007 : decode cL_law 1007 = .ok (.iconst 2, 1) := by decide +kernel
theorem dL_law_1008 : decode cL_law 1008 = .ok (.iadd, 1) := by decide +kernel
theorem dL_law_1009 : decode cL_law 1009 = .ok (.iaload, 1) := by decide +kernel
theorem dL_law_1010 : decode cL_law 1010 = .ok (.invokevirtual 142, 3) := by decide +kernel
theorem dL_law_1013 : decode cL_law 1013 = .ok (.dstore 7, 2) := by decide +kernel
theorem dL_law_1015 : decode cL_law 1015 = .ok (.aload_n 2, 1) := by decide +kernel
theorem dL_law_1016 : decode cL_law 1016 = .ok (.invokevirtual 75, 3) := by decide +kernel
theorem dL_law_1019 : decode cL_law 1019 = .ok (.iload 6, 2) := by decide +kernel
theorem dL_law_1021 : decode cL_law 1021 = .ok (.if_icmp .eq 5, 3) := by decide +kernel
theorem dL_law_1024 : decode cL_law 1024 = .ok (.iconst 0, 1) := by decide +kernel
theorem dL_law_1025 : decode cL_law 1025 = .ok (.ireturn, 1) := by decide +kernel
theorem dL_law_1026 : decode cL_law 1026 = .ok (.iload 6, 2) := by decide +kernel
theorem dL_law_1028 : decode cL_law 1028 = .ok (.ifCond .ne 35, 3) := by decide +kernel
theorem dL_law_1031 : decode cL_law 1031 = .ok (.aload 4, 2) := by decide +kernel
theorem dL_law_1033 : decode cL_law 1033 = .ok (.iconst 0, 1) := by decide +kernel
theorem dL_law_1034 : decode cL_law 1034 = .ok (.daload, 1) := by decide +kernel
theorem dL_law_1035 : decode cL_law 1035 = .ok (.dload 7, 2) := by decide +kernel
theorem dL_law_1037 : decode cL_law 1037 = .ok (.dcmp .l, 1) := by decide +kernel
theorem dL_law_1038 : decode cL_law 1038 = .ok (.ifCond .eq 25, 3) := by decide +kernel
theorem dL_law_1041 : decode cL_law 1041 = .ok (.aload 4, 2) := by decide +kernel
theorem dL_law_1043 : decode cL_law 1043 = .ok (.iconst 0, 1) := by decide +kernel
theorem dL_law_1044 : decode cL_law 1044 = .ok (.daload, 1) := by decide +kernel
theorem dL_law_1045 : decode cL_law 1045 = .ok (.aload 4, 2) := by decide +kernel
theorem dL_law_1047 : decode cL_law 1047 = .ok (.iconst 0, 1) := by decide +kernel
theorem dL_law_1048 : decode cL_law 1048 = .ok (.daload, 1) := by decide +kernel
theorem dL_law_1049 : decode cL_law 1049 = .ok (.dcmp .l, 1) := by decide +kernel
theorem dL_law_1050 : decode cL_law 1050 = .ok (.ifCond .eq 11, 3) := by decide +kernel
theorem dL_law_1053 : decode cL_law 1053 = .ok (.dload 7, 2) := by decide +kernel
theorem dL_law_1055 : decode cL_law 1055 = .ok (.dload 7, 2) := by decide +kernel
theorem dL_law_1057 : decode cL_law 1057 = .ok (.dcmp .l, 1) := by decide +kernel
theorem dL_law_1058 : decode cL_law 1058 = .ok (.ifCond .ne 5, 3) := by decide +kernel
theorem dL_law_1061 : decode cL_law 1061 = .ok (.iconst 0, 1) := by decide +kernel
theorem dL_law_1062 : decode cL_law 1062 = .ok (.ireturn, 1) := by decide +kernel
theorem dL_law_1063 : decode cL_law 1063 = .ok (.goto 292, 3) := by decide +kernel
theorem dL_law_1066 : decode cL_law 1066 = .ok (.aload_n 1, 1) := by decide +kernel
theorem dL_law_1067 : decode cL_law 1067 = .ok (.aload_n 0, 1) := by decide +kernel
theorem dL_law_1068 : decode cL_law 1068 = .ok (.iload 5, 2) := by decide +kernel
theorem dL_law_1070 : decode cL_law 1070 = .ok (.iconst 1, 1) := by decide +kernel
theorem dL_law_1071 : decode cL_law 1071 = .ok (.iadd, 1) := by decide +kernel
theorem dL_law_1072 : decode cL_law 1072 = .ok (.iaload, 1) := by decide +kernel
theorem dL_law_1073 : decode cL_law 1073 = .ok (.aload_n 0, 1) := by decide +kernel
theorem dL_law_1074 : decode cL_law 1074 = .ok (.iload 5, 2) := by decide +kernel
theorem dL_law_1076 : decode cL_law 1076 = .ok (.iconst 2, 1) := by decide +kernel
theorem dL_law_1077 : decode cL_law 1077 = .ok (.iadd, 1) := by decide +kernel
theorem dL_law_1078 : decode cL_law 1078 = .ok (.iaload, 1) := by decide +kernel
theorem dL_law_1079 : decode cL_law 1079 = .ok (.aload_n 0, 1) := by decide +kernel
theorem dL_law_1080 : decode cL_law 1080 = .ok (.iload 5, 2) := by decide +kernel
theorem dL_law_1082 : decode cL_law 1082 = .ok (.iconst 3, 1) := by decide +kernel
theorem dL_law_1083 : decode cL_law 1083 = .ok (.iadd, 1) := by decide +kernel
theorem dL_law_1084 : decode cL_law 1084 = .ok (.iaload, 1) := by decide +kernel
theorem dL_law_1085 : decode cL_law 1085 = .ok (.aload_n 0, 1) := by decide +kernel
theorem dL_law_1086 : decode cL_law 1086 = .ok (.iload 5, 2) := by decide +kernel
theorem dL_law_1088 : decode cL_law 1088 = .ok (.iconst 4, 1) := by decide +kernel
theorem dL_law_1089 : decode cL_law 1089 = .ok (.iadd, 1) := by decide +kernel
theorem dL_law_1090 : decode cL_law 1090 = .ok (.iaload, 1) := by decide +kernel
theorem dL_law_1091 : decode cL_law 1091 = .ok (.aload 4, 2) := by decide +kernel
theorem dL_law_1093 : decode cL_law 1093 = .ok (.invokestatic 143, 3) := by decide +kernel
theorem dL_law_1096 : decode cL_law 1096 = .ok (.istore 6, 2) := by decide +kernel
theorem dL_law_1098 : decode cL_law 1098 = .ok (.aload_n 2, 1) := by decide +kernel
theorem dL_law_1099 : decode cL_law 1099 = .ok (.aload_n 0, 1) := by decide +kernel
theorem dL_law_1100 : decode cL_law 1100 = .ok (.iload 5, 2) := by decide +kernel
theorem dL_law_1102 : decode cL_law 1102 = .ok (.iconst 1, 1) := by decide +kernel
theorem dL_law_1103 : decode cL_law 1103 = .ok (.iadd, 1) := by decide +kernel
theorem dL_law_1104 : decode cL_law 1104 = .ok (.iaload, 1) := by decide +kernel
theorem dL_law_1105 : decode cL_law 1105 = .ok (.aload_n 0, 1) := by decide +kernel
theorem dL_law_1106 : decode cL_law 1106 = .ok (.iload 5, 2) := by decide +kernel
theorem dL_law_1108 : decode cL_law 1108 = .ok (.iconst 2, 1) := by decide +kernel
theorem dL_law_1109 : decode cL_law 1109 = .ok (.iadd, 1) := by decide +kernel
theorem dL_law_1110 : decode cL_law 1110 = .ok (.iaload, 1) := by decide +kernel
theorem dL_law_1111 : decode cL_law 1111 = .ok (.aload_n 0, 1) := by decide +kernel
theorem dL_law_1112 : decode cL_law 1112 = .ok (.iload 5, 2) := by decide +kernel
theorem dL_law_1114 : decode cL_law 1114 = .ok (.iconst 3, 1) := by decide +kernel
theorem dL_law_1115 : decode cL_law 1115 = .ok (.iadd, 1) := by decide +kernel
theorem dL_law_1116 : decode cL_law 1116 = .ok (.iaload, 1) := by decide +kernel
theorem dL_law_1117 : decode cL_law 1117 = .ok (.aload_n 0, 1) := by decide +kernel
theorem dL_law_1118 : decode cL_law 1118 = .ok (.iload 5, 2) := by decide +kernel
theorem dL_law_1120 : decode cL_law 1120 = .ok (.iconst 4, 1) := by decide +kernel
theorem dL_law_1121 : decode cL_law 1121 = .ok (.iadd, 1) := by decide +kernel
theorem dL_law_1122 : decode cL_law 1122 = .ok (.iaload, 1) := by decide +kernel
theorem dL_law_1123 : decode cL_law 1123 = .ok (.invokevirtual 146, 3) := by decide +kernel
theorem dL_law_1126 : decode cL_law 1126 = .ok (.dstore 7, 2) := by decide +kernel
theorem dL_law_1128 : decode cL_law 1128 = .ok (.aload_n 2, 1) := by decide +kernel
theorem dL_law_1129 : decode cL_law 1129 = .ok (.invokevirtual 75, 3) := by decide +kernel
theorem dL_law_1132 : decode cL_law 1132 = .ok (.iload 6, 2) := by decide +kernel
theorem dL_law_1134 : decode cL_law 1134 = .ok (.if_icmp .eq 5, 3) := by decide +kernel
theorem dL_law_1137 : decode cL_law 1137 = .ok (.iconst 0, 1) := by decide +kernel
theorem dL_law_1138 : decode cL_law 1138 = .ok (.ireturn, 1) := by decide +kernel
theorem dL_law_1139 : decode cL_law 1139 = .ok (.iload 6, 2) := by decide +kernel
theorem dL_law_1141 : decode cL_law 1141 = .ok (.ifCond .ne 35, 3) := by decide +kernel
theorem dL_law_1144 : decode cL_law 1144 = .ok (.aload 4, 2) := by decide +kernel
theorem dL_law_1146 : decode cL_law 1146 = .ok (.iconst 0, 1) := by decide +kernel
theorem dL_law_1147 : decode cL_law 1147 = .ok (.daload, 1) := by decide +kernel
theorem dL_law_1148 : decode cL_law 1148 = .ok (.dload 7, 2) := by decide +kernel
theorem dL_law_1150 : decode cL_law 1150 = .ok (.dcmp .l, 1) := by decide +kernel
theorem dL_law_1151 : decode cL_law 1151 = .ok (.ifCond .eq 25, 3) := by decide +kernel
theorem dL_law_1154 : decode cL_law 1154 = .ok (.aload 4, 2) := by decide +kernel
theorem dL_law_1156 : decode cL_law 1156 = .ok (.iconst 0, 1) := by decide +kernel
theorem dL_law_1157 : decode cL_law 1157 = .ok (.daload, 1) := by decide +kernel
theorem dL_law_1158 : decode cL_law 1158 = .ok (.aload 4, 2) := by decide +kernel
theorem dL_law_1160 : decode cL_law 1160 = .ok (.iconst 0, 1) := by decide +kernel
theorem dL_law_1161 : decode cL_law 1161 = .ok (.daload, 1) := by decide +kernel
theorem dL_law_1162 : decode cL_law 1162 = .ok (.dcmp .l, 1) := by decide +kernel
theorem dL_law_1163 : decode cL_law 1163 = .ok (.ifCond .eq 11, 3) := by decide +kernel
theorem dL_law_1166 : decode cL_law 1166 = .ok (.dload 7, 2) := by decide +kernel
theorem dL_law_1168 : decode cL_law 1168 = .ok (.dload 7, 2) := by decide +kernel
theorem dL_law_1170 : decode cL_law 1170 = .ok (.dcmp .l, 1) := by decide +kernel
theorem dL_law_1171 : decode cL_law 1171 = .ok (.ifCond .ne 5, 3) := by decide +kernel
theorem dL_law_1174 : decode cL_law 1174 = .ok (.iconst 0, 1) := by decide +kernel
theorem dL_law_1175 : decode cL_law 1175 = .ok (.ireturn, 1) := by decide +kernel
theorem dL_law_1176 : decode cL_law 1176 = .ok (.goto 179, 3) := by decide +kernel
theorem dL_law_1179 : decode cL_law 1179 = .ok (.aload_n 1, 1) := by decide +kernel
theorem dL_law_1180 : decode cL_law 1180 = .ok (.invokevirtual 147, 3) := by decide +kernel
theorem dL_law_1183 : decode cL_law 1183 = .ok (.aload_n 2, 1) := by decide +kernel
theorem dL_law_1184 : decode cL_law 1184 = .ok (.invokevirtual 150, 3) := by decide +kernel
theorem dL_law_1187 : decode cL_law 1187 = .ok (.if_icmp .eq 168, 3) := by decide +kernel
theorem dL_law_1190 : decode cL_law 1190 = .ok (.iconst 0, 1) := by decide +kernel
theorem dL_law_1191 : decode cL_law 1191 = .ok (.ireturn, 1) := by decide +kernel
theorem dL_law_1192 : decode cL_law 1192 = .ok (.aload_n 1, 1) := by decide +kernel
theorem dL_law_1193 : decode cL_law 1193 = .ok (.aload_n 0, 1) := by decide +kernel
theorem dL_law_1194 : decode cL_law 1194 = .ok (.iload 5, 2) := by decide +kernel
theorem dL_law_1196 : decode cL_law 1196 = .ok (.iconst 1, 1) := by decide +kernel
theorem dL_law_1197 : decode cL_law 1197 = .ok (.iadd, 1) := by decide +kernel
theorem dL_law_1198 : decode cL_law 1198 = .ok (.iaload, 1) := by decide +kernel
theorem dL_law_1199 : decode cL_law 1199 = .ok (.aload_n 0, 1) := by decide +kernel
theorem dL_law_1200 : decode cL_law 1200 = .ok (.iload 5, 2) := by decide +kernel
theorem dL_law_1202 : decode cL_law 1202 = .ok (.iconst 2, 1) := by decide +kernel
theorem dL_law_1203 : decode cL_law 1203 = .ok (.iadd, 1) := by decide +kernel
theorem dL_law_1204 : decode cL_law 1204 = .ok (.iaload, 1) := by decide +kernel
theorem dL_law_1205 : decode cL_law 1205 = .ok (.aload_n 3, 1) := by decide +kernel
theorem dL_law_1206 : decode cL_law 1206 = .ok (.invokestatic 151, 3) := by decide +kernel
theorem dL_law_1209 : decode cL_law 1209 = .ok (.istore 6, 2) := by decide +kernel
theorem dL_law_1211 : decode cL_law 1211 = .ok (.aload_n 2, 1) := by decide +kernel
theorem dL_law_1212 : decode cL_law 1212 = .ok (.aload_n 0, 1) := by decide +kernel
theorem dL_law_1213 : decode cL_law 1213 = .ok (.iload 5, 2) := by decide +kernel
theorem dL_law_1215 : decode cL_law 1215 = .ok (.iconst 1, 1) := by decide +kernel
theorem dL_law_1216 : decode cL_law 1216 = .ok (.iadd, 1) := by decide +kernel
theorem dL_law_1217 : decode cL_law 1217 = .ok (.iaload, 1) := by decide +kernel
theorem dL_law_1218 : decode cL_law 1218 = .ok (.aload_n 0, 1) := by decide +kernel
theorem dL_law_1219 : decode cL_law 1219 = .ok (.iload 5, 2) := by decide +kernel
theorem dL_law_1221 : decode cL_law 1221 = .ok (.iconst 2, 1) := by decide +kernel
theorem dL_law_1222 : decode cL_law 1222 = .ok (.iadd, 1) := by decide +kernel
theorem dL_law_1223 : decode cL_law 1223 = .ok (.iaload, 1) := by decide +kernel
theorem dL_law_1224 : decode cL_law 1224 = .ok (.invokevirtual 153, 3) := by decide +kernel
theorem dL_law_1227 : decode cL_law 1227 = .ok (.istore 7, 2) := by decide +kernel
theorem dL_law_1229 : decode cL_law 1229 = .ok (.aload_n 2, 1) := by decide +kernel
theorem dL_law_1230 : decode cL_law 1230 = .ok (.invokevirtual 75, 3) := by decide +kernel
theorem dL_law_1233 : decode cL_law 1233 = .ok (.iload 6, 2) := by decide +kernel
theorem dL_law_1235 : decode cL_law 1235 = .ok (.if_icmp .eq 5, 3) := by decide +kernel
theorem dL_law_1238 : decode cL_law 1238 = .ok (.iconst 0, 1) := by decide +kernel
theorem dL_law_1239 : decode cL_law 1239 = .ok (.ireturn, 1) := by decide +kernel
theorem dL_law_1240 : decode cL_law 1240 = .ok (.iload 6, 2) := by decide +kernel
theorem dL_law_1242 : decode cL_law 1242 = .ok (.ifCond .ne 15, 3) := by decide +kernel
theorem dL_law_1245 : decode cL_law 1245 = .ok (.aload_n 3, 1) := by decide +kernel
theorem dL_law_1246 : decode cL_law 1246 = .ok (.iconst 0, 1) := by decide +kernel
theorem dL_law_1247 : decode cL_law 1247 = .ok (.laload, 1) := by decide +kernel
theorem dL_law_1248 : decode cL_law 1248 = .ok (.iload 7, 2) := by decide +kernel
theorem dL_law_1250 : decode cL_law 1250 = .ok (.i2l, 1) := by decide +kernel
theorem dL_law_1251 : decode cL_law 1251 = .ok (.lcmp, 1) := by decide +kernel
theorem dL_law_1252 : decode cL_law 1252 = .ok (.ifCond .eq 5, 3) := by decide +kernel
theorem dL_law_1255 : decode cL_law 1255 = .ok (.iconst 0, 1) := by decide +kernel
theorem dL_law_1256 : decode cL_law 1256 = .ok (.ireturn, 1) := by decide +kernel
theorem dL_law_1257 : decode cL_law 1257 = .ok (.goto 98, 3) := by decide +kernel
theorem dL_law_1260 : decode cL_law 1260 = .ok (.aload_n 1, 1) := by decide +kernel
theorem dL_law_1261 : decode cL_law 1261 = .ok (.invokevirtual 154, 3) := by decide +kernel
theorem dL_law_1264 : decode cL_law 1264 = .ok (.aload_n 2, 1) := by decide +kernel
theorem dL_law_1265 : decode cL_law 1265 = .ok (.invokevirtual 157, 3) := by decide +kernel
theorem dL_law_1268 : decode cL_law 1268 = .ok (.if_icmp .eq 87, 3) := by decide +kernel
theorem dL_law_1271 : decode cL_law 1271 = .ok (.iconst 0, 1) := by decide +kernel
theorem dL_law_1272 : decode cL_law 1272 = .ok (.ireturn, 1) := by decide +kernel
theorem dL_law_1273 : decode cL_law 1273 = .ok (.aload_n 1, 1) := by decide +kernel
theorem dL_law_1274 : decode cL_law 1274 = .ok (.aload_n 0, 1) := by decide +kernel
theorem dL_law_1275 : decode cL_law 1275 = .ok (.iload 5, 2) := by decide +kernel
theorem dL_law_1277 : decode cL_law 1277 = .ok (.iconst 1, 1) := by decide +kernel
theorem dL_law_1278 : decode cL_law 1278 = .ok (.iadd, 1) := by decide +kernel
theorem dL_law_1279 : decode cL_law 1279 = .ok (.iaload, 1) := by decide +kernel
theorem dL_law_1280 : decode cL_law 1280 = .ok (.aload_n 0, 1) := by decide +kernel
theorem dL_law_1281 : decode cL_law 1281 = .ok (.iload 5, 2) := by decide +kernel
theorem dL_law_1283 : decode cL_law 1283 = .ok (.iconst 2, 1) := by decide +kernel
theorem dL_law_1284 : decode cL_law 1284 = .ok (.iadd, 1) := by decide +kernel
theorem dL_law_1285 : decode cL_law 1285 = .ok (.iaload, 1) := by decide +kernel
theorem dL_law_1286 : decode cL_law 1286 = .ok (.aload_n 3, 1) := by decide +kernel
theorem dL_law_1287 : decode cL_law 1287 = .ok (.invokestatic 158, 3) := by decide +kernel
theorem dL_law_1290 : decode cL_law 1290 = .ok (.istore 6, 2) := by decide +kernel
theorem dL_law_1292 : decode cL_law 1292 = .ok (.aload_n 2, 1) := by decide +kernel
theorem dL_law_1293 : decode cL_law 1293 = .ok (.aload_n 0, 1) := by decide +kernel
theorem dL_law_1294 : decode cL_law 1294 = .ok (.iload 5, 2) := by decide +kernel
theorem dL_law_1296 : decode cL_law 1296 = .ok (.iconst 1, 1) := by decide +kernel
theorem dL_law_1297 : decode cL_law 1297 = .ok (.iadd, 1) := by decide +kernel
theorem dL_law_1298 : decode cL_law 1298 = .ok (.iaload, 1) := by decide +kernel
theorem dL_law_1299 : decode cL_law 1299 = .ok (.aload_n 0, 1) := by decide +kernel
theorem dL_law_1300 : decode cL_law 1300 = .ok (.iload 5, 2) := by decide +kernel
theorem dL_law_1302 : decode cL_law 1302 = .ok (.iconst 2, 1) := by decide +kernel
theorem dL_law_1303 : decode cL_law 1303 = .ok (.iadd, 1) := by decide +kernel
theorem dL_law_1304 : decode cL_law 1304 = .ok (.iaload, 1) := by decide +kernel
theorem dL_law_1305 : decode cL_law 1305 = .ok (.invokevirtual 160, 3) := by decide +kernel
theorem dL_law_1308 : decode cL_law 1308 = .ok (.istore 7, 2) := by decide +kernel
theorem dL_law_1310 : decode cL_law 1310 = .ok (.aload_n 2, 1) := by decide +kernel
theorem dL_law_1311 : decode cL_law 1311 = .ok (.invokevirtual 75, 3) := by decide +kernel
theorem dL_law_1314 : decode cL_law 1314 = .ok (.iload 6, 2) := by decide +kernel
theorem dL_law_1316 : decode cL_law 1316 = .ok (.if_icmp .eq 5, 3) := by decide +kernel
theorem dL_law_1319 : decode cL_law 1319 = .ok (.iconst 0, 1) := by decide +kernel
theorem dL_law_1320 : decode cL_law 1320 = .ok (.ireturn, 1) := by decide +kernel
theorem dL_law_1321 : decode cL_law 1321 = .ok (.iload 6, 2) := by decide +kernel
theorem dL_law_1323 : decode cL_law 1323 = .ok (.ifCond .ne 15, 3) := by decide +kernel
theorem dL_law_1326 : decode cL_law 1326 = .ok (.aload_n 3, 1) := by decide +kernel
theorem dL_law_1327 : decode cL_law 1327 = .ok (.iconst 0, 1) := by decide +kernel
theorem dL_law_1328 : decode cL_law 1328 = .ok (.laload, 1) := by decide +kernel
theorem dL_law_1329 : decode cL_law 1329 = .ok (.iload 7, 2) := by decide +kernel
theorem dL_law_1331 : decode cL_law 1331 = .ok (.i2l, 1) := by decide +kernel
theorem dL_law_1332 : decode cL_law 1332 = .ok (.lcmp, 1) := by decide +kernel
theorem dL_law_1333 : decode cL_law 1333 = .ok (.ifCond .eq 5, 3) := by decide +kernel
theorem dL_law_1336 : decode cL_law 1336 = .ok (.iconst 0, 1) := by decide +kernel
theorem dL_law_1337 : decode cL_law 1337 = .ok (.ireturn, 1) := by decide +kernel
theorem dL_law_1338 : decode cL_law 1338 = .ok (.goto 17, 3) := by decide +kernel
theorem dL_law_1341 : decode cL_law 1341 = .ok (.aload_n 1, 1) := by decide +kernel
theorem dL_law_1342 : decode cL_law 1342 = .ok (.invokevirtual 161, 3) := by decide +kernel
theorem dL_law_1345 : decode cL_law 1345 = .ok (.aload_n 2, 1) := by decide +kernel
theorem dL_law_1346 : decode cL_law 1346 = .ok (.invokevirtual 165, 3) := by decide +kernel
theorem dL_law_1349 : decode cL_law 1349 = .ok (.lcmp, 1) := by decide +kernel
theorem dL_law_1350 : decode cL_law 1350 = .ok (.ifCond .eq 5, 3) := by decide +kernel
theorem dL_law_1353 : decode cL_law 1353 = .ok (.iconst 0, 1) := by decide +kernel
theorem dL_law_1354 : decode cL_law 1354 = .ok (.ireturn, 1) := by decide +kernel
theorem dL_law_1355 : decode cL_law 1355 = .ok (.iinc 5 5, 3) := by decide +kernel
theorem dL_law_1358 : decode cL_law 1358 = .ok (.goto (-1330), 3) := by decide +kernel
theorem dL_law_1361 : decode cL_law 1361 = .ok (.iconst 1, 1) := by decide +kernel
theorem dL_law_1362 : decode cL_law 1362 = .ok (.ireturn, 1) := by decide +kernel
end
section
/-! my own rows: rows of the kit with Nat indices, boolean tests, double comparisons -/
def bI (b : Bool) : Int32 := if b = true then 1 else 0
theorem bI_t : bI true = 1 := rfl
theorem bI_f : bI false = 0 := rfl
def dgt (x y : UInt64) : Bool := FP.dcmp x y == some .gt
def dlt (x y : UInt64) : Bool := FP.dcmp x y == some .lt
def dge (x y : UInt64) : Bool := FP.dcmp x y == some .gt || FP.dcmp x y == some .eq
def deq (x y : UInt64) : Bool := FP.dcmp x y == some .eq
def ag1 (n : Nat) (f g : Nat → Int32) : Prop := ∀ j : Nat, j < n → f j = g j
def ag2 {α : Type} (n : Nat) (f : Nat → α) (g : Nat → Nat → α) : Prop := ∀ i j : Nat, i < n → j < n → f (6 * i + j) = g i j
def upd2 {α : Type} (f : Nat → Nat → α) (i j : Nat) (v : α) : Nat → Nat → α := fun a b => if a = i ∧ b = j then v else f a b
theorem nI_mul6 (i : Nat) : nI i * 6 = nI (6 * i) := by
  rw [Nat.mul_comm]; exact (Int32.ofNat_mul i 6).symm
theorem nI_6mul (i : Nat) : 6 * nI i = nI (6 * i) := (Int32.ofNat_mul 6 i).symm
theorem nI_10mul (i : Nat) : 10 * nI i = nI (10 * i) := (Int32.ofNat_mul 10 i).symm
theorem ag2_upd {n : Nat} {f : Nat → Int32} {g : Nat → Nat → Int32} (h : ag2 n f g) (hn : n ≤ 6) {i j : Nat} (hj : j < n) (v : Int32) : ag2 n (upd f (6 * i + j) v) (upd2 g i j v) := by
  intro a b ha hb
  unfold upd upd2
  by_cases hab : a = i ∧ b = j
  · rw [if_pos hab, if_pos (by omega)]
  · rw [if_neg hab, if_neg (by omega)]
    exact h a b ha hb
theorem ag2_updD {n : Nat} {f : Nat → UInt64} {g : Nat → Nat → UInt64} (h : ag2 n f g) (hn : n ≤ 6) {i j : Nat} (hj : j < n) (v : UInt64) : ag2 n (vf_upd f (6 * i + j) v) (upd2 g i j v) := by
  intro a b ha hb
  unfold vf_upd upd2
  by_cases hab : a = i ∧ b = j
  · rw [if_pos hab, if_pos (by omega)]
  · rw [if_neg hab, if_neg (by omega)]
    exact h a b ha hb
theorem ag1_upd {n : Nat} {f g : Nat → Int32} (h : ag1 n f g) (i : Nat) (v : Int32) : ag1 n (upd f i v) (upd g i v) := by
  intro a ha
  unfold upd
  by_cases hab : a = i
  · rw [if_pos hab, if_pos hab]
  · rw [if_neg hab, if_neg hab]
    exact h a ha
/-- the same addresses: what was apart is apart -/
theorem va_D.same {A : Nat → Prop} {w w' : va_W} (h : va_D A w) (he : w'.map (fun q => q.1) = w.map (fun q => q.1)) : va_D A w' := by
  have key : ∀ (k : Nat) (q : Nat × va_E), w'[k]? = some q → ∃ q0, w[k]? = some q0 ∧ q0.1 = q.1 := by
    intro k q hk
    have h1 : (w'.map (fun q => q.1))[k]? = some q.1 := by rw [List.getElem?_map, hk]; rfl
    rw [he, List.getElem?_map] at h1
    cases h2 : w[k]? with
    | none => rw [h2] at h1; cases h1
    | some q0 => rw [h2] at h1; exact ⟨q0, rfl, Option.some.inj h1⟩
  refine ⟨fun i j x y hi hj hxy => ?_, fun k q hk => ?_⟩
  · obtain ⟨x0, h1, h2⟩ := key i x hi
    obtain ⟨y0, h3, h4⟩ := key j y hj
    exact h.1 i j x0 y0 h1 h3 (h2.trans (hxy.trans h4.symm))
  · obtain ⟨q0, h1, h2⟩ := key k q hk
    rw [← h2]
    exact h.2 k q0 h1
section MYR
variable {p : Program} {l : Launch} {e : Env} {R : Room} {s : State} {m : MethodId} {args : Array Value} {below : List Frame} {meth : Method} {c : Code} {H : Heap} {locs : List Loc} {cells slots : Nat} {Q : State → Prop}
variable {cc : ByteArray} {pc : Nat} {ls : Array Slot} {rest : List Value} {D : va_G} {cl : List vw_C} {A : Nat → Prop} {a : Nat} {tys : List (ClassId × FieldType)} {ws : va_W} {H0 : Heap}
theorem w_iadd (hexec : p.tables.exec = Jvm.exec) (hb : c.code = cc) {x y : Nat} (hdg : decode cc pc = .ok (.iadd, 1)) (k : W p l e R s m args below meth c H locs cells slots Q (F0 m (pc + 1) ls (.int (nI (x + y)) :: rest))) : W p l e R s m args below meth c H locs cells slots Q (F0 m pc ls (.int (nI y) :: .int (nI x) :: rest)) :=
  lv_iadd hexec hb hdg (by rw [nI_add]; exact k)
theorem w_imulL {N x y : Nat} {v : Int32} (hexec : p.tables.exec = Jvm.exec) (hb : c.code = cc) (hv : v = nI N) (hdg : decode cc pc = .ok (.imul, 1)) (k : W p l e R s m args below meth c H locs cells slots Q (F0 m (pc + 1) ls (.int (nI (N * x)) :: rest))) : W p l e R s m args below meth c H locs cells slots Q (F0 m pc ls (.int (nI x) :: .int v :: rest)) :=
  lv_imul hexec hb hdg (by rw [hv, show nI N * nI x = nI (N * x) from (Int32.ofNat_mul N x).symm]; exact k)
theorem w_imulR {N x : Nat} {v : Int32} (hexec : p.tables.exec = Jvm.exec) (hb : c.code = cc) (hv : v = nI N) (hdg : decode cc pc = .ok (.imul, 1)) (k : W p l e R s m args below meth c H locs cells slots Q (F0 m (pc + 1) ls (.int (nI (N * x)) :: rest))) : W p l e R s m args below meth c H locs cells slots Q (F0 m pc ls (.int v :: .int (nI x) :: rest)) :=
  lv_imul hexec hb hdg (by rw [hv, show nI x * nI N = nI (N * x) from by rw [Nat.mul_comm]; exact (Int32.ofNat_mul x N).symm]; exact k)
theorem w_iald (hexec : p.tables.exec = Jvm.exec) (hb : c.code = cc) (hK : va_K D cl tys s) (hP : va_P D cl ws H) (q0 t0 : Nat) {cA : ClassId} {n : Nat} {f : Nat → Int32} (ha : ws[q0]? = some (a, .inl (cA, n, .inl f))) (ht : tys[t0]? = some (cA, .int)) {j : Nat} {v : Int32} (hv : f j = v) (hj : j < n) (hn : n < 2 ^ 31) (hdg : decode cc pc = .ok (.iaload, 1))
    (kk : W p l e R s m args below meth c H locs cells slots Q (F0 m (pc + 1) ls (.int v :: rest))) : W p l e R s m args below meth c H locs cells slots Q (F0 m pc ls (.int (nI j) :: .ref a :: rest)) :=
  va_iald hexec hb hK hP q0 t0 ha ht (vp_in_nI hj hn) hdg (by rw [nI_clamp (Nat.lt_trans hj hn), hv]; exact kk)
theorem w_dald (hexec : p.tables.exec = Jvm.exec) (hb : c.code = cc) (hK : va_K D cl tys s) (hP : va_P D cl ws H) (q0 t0 : Nat) {cA : ClassId} {n : Nat} {f : Nat → UInt64} (ha : ws[q0]? = some (a, .inl (cA, n, .inr (.inr (.inr (.inl f)))))) (ht : tys[t0]? = some (cA, .double)) {j : Nat} {v : UInt64} (hv : f j = v) (hj : j < n) (hn : n < 2 ^ 31) (hdg : decode cc pc = .ok (.daload, 1))
    (kk : W p l e R s m args below meth c H locs cells slots Q (F0 m (pc + 1) ls (.double v :: rest))) : W p l e R s m args below meth c H locs cells slots Q (F0 m pc ls (.int (nI j) :: .ref a :: rest)) :=
  va_dald hexec hb hK hP q0 t0 ha ht (vp_in_nI hj hn) hdg (by rw [nI_clamp (Nat.lt_trans hj hn), hv]; exact kk)
theorem w_iast (hexec : p.tables.exec = Jvm.exec) (hb : c.code = cc) (hK : va_K D cl tys s) (hP : va_P D cl ws H) (hD : va_D A ws) (hS : va_S A H0 H locs) (q0 t0 : Nat) {cA : ClassId} {n : Nat} {f : Nat → Int32} (ha : ws[q0]? = some (a, .inl (cA, n, .inl f))) (ht : tys[t0]? = some (cA, .int)) {j : Nat} {x : Int32} (hj : j < n) (hn : n < 2 ^ 31) (hdg : decode cc pc = .ok (.iastore, 1))
    (kk : ∀ (H1 : Heap) (locs1 : List Loc), va_P D cl (ws.set q0 (a, .inl (cA, n, .inl (upd f j x)))) H1 → va_D A (ws.set q0 (a, .inl (cA, n, .inl (upd f j x)))) → va_S A H0 H1 locs1 → W p l e R s m args below meth c H1 locs1 cells slots Q (F0 m (pc + 1) ls rest)) : W p l e R s m args below meth c H locs cells slots Q (F0 m pc ls (.int x :: .int (nI j) :: .ref a :: rest)) :=
  va_iast hexec hb hK hP hD hS q0 t0 ha ht (vp_in_nI hj hn) hdg (by rw [nI_clamp (Nat.lt_trans hj hn)]; exact kk)
theorem w_dast (hexec : p.tables.exec = Jvm.exec) (hb : c.code = cc) (hK : va_K D cl tys s) (hP : va_P D cl ws H) (hD : va_D A ws) (hS : va_S A H0 H locs) (q0 t0 : Nat) {cA : ClassId} {n : Nat} {f : Nat → UInt64} (ha : ws[q0]? = some (a, .inl (cA, n, .inr (.inr (.inr (.inl f)))))) (ht : tys[t0]? = some (cA, .double)) {j : Nat} {x : UInt64} (hj : j < n) (hn : n < 2 ^ 31) (hdg : decode cc pc = .ok (.dastore, 1))
    (kk : ∀ (H1 : Heap) (locs1 : List Loc), va_P D cl (ws.set q0 (a, .inl (cA, n, .inr (.inr (.inr (.inl (vf_upd f j x))))))) H1 → va_D A (ws.set q0 (a, .inl (cA, n, .inr (.inr (.inr (.inl (vf_upd f j x))))))) → va_S A H0 H1 locs1 → W p l e R s m args below meth c H1 locs1 cells slots Q (F0 m (pc + 1) ls rest)) : W p l e R s m args below meth c H locs cells slots Q (F0 m pc ls (.double x :: .int (nI j) :: .ref a :: rest)) :=
  va_dast hexec hb hK hP hD hS q0 t0 ha ht (vp_in_nI hj hn) hdg (by rw [nI_clamp (Nat.lt_trans hj hn)]; exact kk)
/-- tests of an answer that is 0 or 1 -/
theorem w_ifBeq (hexec : p.tables.exec = Jvm.exec) (hb : c.code = cc) {x : Bool} {off : Int} {tgt : Nat} (hdg : decode cc pc = .ok (.ifCond .eq off, 3)) (ht : (pc : Int) + off = (tgt : Int))
    (kt : x = false → W p l e R s m args below meth c H locs cells slots Q (F0 m tgt ls rest)) (kf : x = true → W p l e R s m args below meth c H locs cells slots Q (F0 m (pc + 3) ls rest)) : W p l e R s m args below meth c H locs cells slots Q (F0 m pc ls (.int (bI x) :: rest)) :=
  lv_if_eq hexec hb hdg ht (fun h => kt (by cases x; rfl; exact absurd h (by decide))) (fun h => kf (by cases x; exact absurd rfl h; rfl))
theorem w_ifBne (hexec : p.tables.exec = Jvm.exec) (hb : c.code = cc) {x : Bool} {off : Int} {tgt : Nat} (hdg : decode cc pc = .ok (.ifCond .ne off, 3)) (ht : (pc : Int) + off = (tgt : Int))
    (kt : x = true → W p l e R s m args below meth c H locs cells slots Q (F0 m tgt ls rest)) (kf : x = false → W p l e R s m args below meth c H locs cells slots Q (F0 m (pc + 3) ls rest)) : W p l e R s m args below meth c H locs cells slots Q (F0 m pc ls (.int (bI x) :: rest)) :=
  lv_if_ne hexec hb hdg ht (fun h => kt (by cases x; exact absurd rfl h; rfl)) (fun h => kf (by cases x; rfl; exact absurd h (by decide)))
/-- x > y: dcmpl, ifle -/
theorem w_dgt (hexec : p.tables.exec = Jvm.exec) (hb : c.code = cc) {x y : UInt64} {off : Int} {tgt : Nat} (hd1 : decode cc pc = .ok (.dcmp .l, 1)) (hd2 : decode cc (pc + 1) = .ok (.ifCond .le off, 3)) (ht : ((pc + 1 : Nat) : Int) + off = (tgt : Int))
    (kt : dgt x y = false → W p l e R s m args below meth c H locs cells slots Q (F0 m tgt ls rest)) (kf : dgt x y = true → W p l e R s m args below meth c H locs cells slots Q (F0 m (pc + 4) ls rest)) : W p l e R s m args below meth c H locs cells slots Q (F0 m pc ls (.double y :: .double x :: rest)) := by
  refine lv_dcmp hexec hb hd1 ?_
  refine lv_if_le hexec hb hd2 ht (fun h => kt ?_) (fun h => kf ?_)
  · unfold dgt; revert h; rcases FP.dcmp x y with _ | (_ | _ | _) <;> decide
  · unfold dgt; revert h; rcases FP.dcmp x y with _ | (_ | _ | _) <;> decide
/-- x < y: dcmpg, ifge -/
theorem w_dlt (hexec : p.tables.exec = Jvm.exec) (hb : c.code = cc) {x y : UInt64} {off : Int} {tgt : Nat} (hd1 : decode cc pc = .ok (.dcmp .g, 1)) (hd2 : decode cc (pc + 1) = .ok (.ifCond .ge off, 3)) (ht : ((pc + 1 : Nat) : Int) + off = (tgt : Int))
    (kt : dlt x y = false → W p l e R s m args below meth c H locs cells slots Q (F0 m tgt ls rest)) (kf : dlt x y = true → W p l e R s m args below meth c H locs cells slots Q (F0 m (pc + 4) ls rest)) : W p l e R s m args below meth c H locs cells slots Q (F0 m pc ls (.double y :: .double x :: rest)) := by
  refine lv_dcmp hexec hb hd1 ?_
  refine lv_if_ge hexec hb hd2 ht (fun h => kt ?_) (fun h => kf ?_)
  · unfold dlt; revert h; rcases FP.dcmp x y with _ | (_ | _ | _) <;> decide
  · unfold dlt; revert h; rcases FP.dcmp x y with _ | (_ | _ | _) <;> decide
/-- x >= y: dcmpl, iflt -/
theorem w_dge (hexec : p.tables.exec = Jvm.exec) (hb : c.code = cc) {x y : UInt64} {off : Int} {tgt : Nat} (hd1 : decode cc pc = .ok (.dcmp .l, 1)) (hd2 : decode cc (pc + 1) = .ok (.ifCond .lt off, 3)) (ht : ((pc + 1 : Nat) : Int) + off = (tgt : Int))
    (kt : dge x y = false → W p l e R s m args below meth c H locs cells slots Q (F0 m tgt ls rest)) (kf : dge x y = true → W p l e R s m args below meth c H locs cells slots Q (F0 m (pc + 4) ls rest)) : W p l e R s m args below meth c H locs cells slots Q (F0 m pc ls (.double y :: .double x :: rest)) := by
  refine lv_dcmp hexec hb hd1 ?_
  refine lv_if_lt hexec hb hd2 ht (fun h => kt ?_) (fun h => kf ?_)
  · unfold dge; revert h; rcases FP.dcmp x y with _ | (_ | _ | _) <;> decide
  · unfold dge; revert h; rcases FP.dcmp x y with _ | (_ | _ | _) <;> decide
end MYR
end
section
/-! the two worlds: the component's object with its nine arrays, the reference's with its nine -/
abbrev cls2 : List vw_C := [(RX0, TX0, 11), (RX1, TX1, 13)]
abbrev tys2 (cI cD : ClassId) : List (ClassId × FieldType) := [(cI, .int), (cD, .double)]
abbrev aI (cI : ClassId) (n : Nat) (f : Nat → Int32) : va_E := .inl (cI, n, .inl f)
abbrev aD (cD : ClassId) (n : Nat) (f : Nat → UInt64) : va_E := .inl (cD, n, .inr (.inr (.inr (.inl f))))
/-- component: inflows outflows weights estimates targets roundedTable possibleTable outflowsLeft fractions -/
abbrev cW (q : Nat → Nat) (cI cD : ClassId) (nA rC : Int32) (fi fo fw : Nat → Int32) (fe : Nat → UInt64) (ft fr fp fl : Nat → Int32) (ff : Nat → UInt64) : va_W :=
  [(q 0, .inr (0, [.ref (q 1), .ref (q 2), .ref (q 3), .ref (q 4), .ref (q 5), .ref (q 6), .ref (q 7), .ref (q 8), .ref (q 9), .int nA, .int rC])), (q 1, aI cI 6 fi), (q 2, aI cI 6 fo), (q 3, aI cI 36 fw), (q 4, aD cD 36 fe), (q 5, aI cI 6 ft), (q 6, aI cI 36 fr), (q 7, aI cI 36 fp), (q 8, aI cI 6 fl), (q 9, aD cD 6 ff)]
/-- reference: inflow outflow weights estimates whole fraction table rowLeft columnLeft -/
abbrev mW (q : Nat → Nat) (cI cD : ClassId) (th nA rC : Int32) (hh : Int64) (fi fo fw : Nat → Int32) (fe : Nat → UInt64) (fr : Nat → Int32) (ff : Nat → UInt64) (fp fl fc : Nat → Int32) : va_W :=
  [(q 0, .inr (1, [.int th, .int nA, .ref (q 1), .ref (q 2), .ref (q 3), .ref (q 4), .int rC, .ref (q 5), .ref (q 6), .ref (q 7), .ref (q 8), .ref (q 9), .long hh])), (q 1, aI cI 6 fi), (q 2, aI cI 6 fo), (q 3, aI cI 36 fw), (q 4, aD cD 36 fe), (q 5, aI cI 36 fr), (q 6, aD cD 6 ff), (q 7, aI cI 36 fp), (q 8, aI cI 6 fl), (q 9, aI cI 6 fc)]
/-- the ten addresses are apart -/
def qD (q : Nat → Nat) : Prop := ∀ i j : Nat, i < 10 → j < 10 → q i = q j → i = j
def qA (q : Nat → Nat) : Nat → Prop := fun x => ∃ k : Nat, k < 10 ∧ x = q k
theorem wD_of {q : Nat → Nat} (hq : qD q) {w : va_W} (he : w.map (fun x => x.1) = [q 0, q 1, q 2, q 3, q 4, q 5, q 6, q 7, q 8, q 9]) : va_D (qA q) w := by
  have he' : w.map (fun x => x.1) = (List.range 10).map q := he
  have key : ∀ (k : Nat) (x : Nat × va_E), w[k]? = some x → k < 10 ∧ x.1 = q k := by
    intro k x hk
    have h1 : (w.map (fun x => x.1))[k]? = some x.1 := by rw [List.getElem?_map, hk]; rfl
    rw [he', List.getElem?_map] at h1
    by_cases h : k < 10
    · rw [List.getElem?_range h] at h1
      exact ⟨h, (Option.some.inj h1).symm⟩
    · rw [List.getElem?_eq_none (by rw [List.length_range]; omega)] at h1
      cases h1
  refine ⟨fun i j x y hi hj hxy => ?_, fun k x hk => ?_⟩
  · obtain ⟨h1, h2⟩ := key i x hi
    obtain ⟨h3, h4⟩ := key j y hj
    exact hq i j h1 h3 (by rw [← h2, ← h4, hxy])
  · obtain ⟨h1, h2⟩ := key k x hk
    exact ⟨k, h1, h2⟩
def wPre (D : va_G) (tys : List (ClassId × FieldType)) (ws : va_W) : State → Prop := fun U => va_P D cls2 ws U.heap ∧ va_K D cls2 tys U
theorem wBlind (D : va_G) (tys : List (ClassId × FieldType)) (ws : va_W) (av : List Value) : FrameBlind (va_Pc av (wPre D tys ws)) := fun a U g mk h => ⟨h.1, h.2.1, va_K.moved (u := U) (U := U.calling g mk a) (Vm.Alike.refl U.vm) h.2.2⟩
theorem nBlind (av : List Value) : FrameBlind (va_Pc av (fun _ => True)) := fun a U g mk h => h
theorem preV {s : State} {H : Heap} {D : va_G} {tys : List (ClassId × FieldType)} {ws : va_W} {b ci : Nat} {fs As : List Value} {C : String} {T : u_T} {N : Nat} (hK : va_K D cls2 tys s) (hP : va_P D cls2 ws H) (h0 : ws[0]? = some (b, .inr (ci, fs))) (hc : cls2[ci]? = some (C, T, N)) : PreV s H C b (va_Pc (.ref b :: As) (wPre D tys ws)) As :=
  ⟨wBlind D tys ws _, va_recv hK hP hc h0, fun U hU hW => ⟨rfl, by rw [hU]; exact hP, va_K.moved hW.alike hK⟩⟩
theorem preS {s : State} {H : Heap} {As : List Value} : PreS s H (va_Pc As (fun _ => True)) As := ⟨nBlind As, fun U hU hW => ⟨rfl, trivial⟩⟩
/-- a method's contract out of the walk of its body -/
theorem met_intro {l : Launch} {y : MethodName} {ws ws' : List Cond} {rm : Room} {Qc : Array Value → State → Outcome → State → Prop} {mc ms : Nat} {free : Addr → Prop} {cc : ByteArray} {maxL : Nat} {ret : Option FieldType} {own : String} {vs : List Value} {B : State → Prop}
    (hy : plainName y.cls = true) (hw : ws = Cond.code y cc maxL ret :: ws') (hcls : y.cls = own) (hlen : (lg_sl vs).length ≤ maxL)
    (body : ∀ p e s m args below meth c (Q : State → Prop) (ls : Array Slot), Q = MQ below Qc args s mc ms free → CallFix p m c cc maxL s args ws own → meth.sig.returnType = ret → meth.locks = false → args = vs.toArray → B s → lv_has ls maxL (lv_args 0 vs) → W p l e rm s m args below meth c s.heap [] 0 0 Q (F0 m 0 ls [])) : Met l y ws rm (va_Pc vs B) Qc mc ms free := by
  refine Met.ofW (cc := cc) (maxL := maxL) (ret := ret) hy hw ?_
  intro p e s m args below meth c s₁ BB hml hv
  obtain ⟨hv0, hB⟩ := hv
  have hts := atoms_spec (ws := ws) BB.pre
  have hown : s.vm.findClass own = some m.cls := by rw [← hcls]; exact findClass_of_methodNamed BB.named
  have hl := lv_entry vs (n := maxL) hlen
  have key := body p e s m args below meth c _ _ rfl ⟨BB.exec, BB.bytes, hml, hown, hts⟩ BB.returns BB.notSynchronized hv0 hB hl
  rw [hv0, lg_entry_eq]
  rw [hv0] at key
  exact key
section MYC
variable {p : Program} {l : Launch} {e : Env} {R : Room} {s : State} {m : MethodId} {args : Array Value} {below : List Frame} {meth : Method} {c : Code} {H : Heap} {locs : List Loc} {cells slots : Nat} {Q : State → Prop}
variable {cc : ByteArray} {pc : Nat} {ls : Array Slot} {rest : List Value} {D : va_G} {cI cD : ClassId} {q : Nat → Nat} {Ts : List Cond} {nL : Nat}
/-- a field of the component's object -/
theorem w_getC {own : String} {index : Nat} {ws : va_W} {fs : List Value} {tys : List (ClassId × FieldType)} (S : CallFix p m c cc nL s args Ts RX0) (hin : ∀ w ∈ wsX00, w ∈ Ts) (hK : va_K D cls2 tys s) (hP : va_P D cls2 ws H) (he : ws[0]? = some (q 0, .inr (0, fs))) (k : Nat) (hk : k < 11) (hlink : Cond.fieldLink RX0 index RX0 (TX0 k).2.1 (TX0 k).2.2.1 ∈ Ts) {v : Value} (hv : fs[k]? = some v) (hsame : (TX0 k).1 = RX0) (hdg : decode cc pc = .ok (.getfield index, 3))
    (kk : W p l e R s m args below meth c H locs cells slots Q (F0 m (pc + 3) ls (v :: rest))) : W p l e R s m args below meth c H locs cells slots Q (F0 m pc ls (.ref (q 0) :: rest)) :=
  va_get (C := RX0) (T := TX0) (N := 11) (ci := 0) S.1 S.2.1 S.2.2.2.2 hin S.2.2.2.1 hK hP 0 he rfl k hk (S.2.2.2.2 _ hlink) (fun x h => by rw [hsame] at h; exact h) hv hdg kk
theorem w_getM {own : String} {index : Nat} {ws : va_W} {fs : List Value} {tys : List (ClassId × FieldType)} (S : CallFix p m c cc nL s args Ts RX1) (hin : ∀ w ∈ wsX10, w ∈ Ts) (hK : va_K D cls2 tys s) (hP : va_P D cls2 ws H) (he : ws[0]? = some (q 0, .inr (1, fs))) (k : Nat) (hk : k < 13) (hlink : Cond.fieldLink RX1 index RX1 (TX1 k).2.1 (TX1 k).2.2.1 ∈ Ts) {v : Value} (hv : fs[k]? = some v) (hsame : (TX1 k).1 = RX1) (hdg : decode cc pc = .ok (.getfield index, 3))
    (kk : W p l e R s m args below meth c H locs cells slots Q (F0 m (pc + 3) ls (v :: rest))) : W p l e R s m args below meth c H locs cells slots Q (F0 m pc ls (.ref (q 0) :: rest)) :=
  va_get (C := RX1) (T := TX1) (N := 13) (ci := 1) S.1 S.2.1 S.2.2.2.2 hin S.2.2.2.1 hK hP 0 he rfl k hk (S.2.2.2.2 _ hlink) (fun x h => by rw [hsame] at h; exact h) hv hdg kk
theorem w_putC {A : Nat → Prop} {H0 : Heap} {index : Nat} {ws : va_W} {fs : List Value} {tys : List (ClassId × FieldType)} (S : CallFix p m c cc nL s args Ts RX0) (hin : ∀ w ∈ wsX00, w ∈ Ts) (hK : va_K D cls2 tys s) (hP : va_P D cls2 ws H) (hD : va_D A ws) (hS : va_S A H0 H locs) (he : ws[0]? = some (q 0, .inr (0, fs))) (k : Nat) (hk : k < 11) (hlink : Cond.fieldLink RX0 index RX0 (TX0 k).2.1 (TX0 k).2.2.1 ∈ Ts) (hfin : (TX0 k).2.2.2 = false) {ty : FieldType} {v : Value} (hd : parseFieldDescriptor (TX0 k).2.2.1 = some ty) (hn : narrow ty v = v) (hfit : fits ty v = true) (hl : k < fs.length) (hsame : (TX0 k).1 = RX0) (hdg : decode cc pc = .ok (.putfield index, 3))
    (kk : ∀ (H1 : Heap) (locs1 : List Loc), va_P D cls2 (ws.set 0 (q 0, .inr (0, fs.set k v))) H1 → va_S A H0 H1 locs1 → W p l e R s m args below meth c H1 locs1 cells slots Q (F0 m (pc + 3) ls rest)) : W p l e R s m args below meth c H locs cells slots Q (F0 m pc ls (v :: .ref (q 0) :: rest)) :=
  va_put (C := RX0) (T := TX0) (N := 11) (ci := 0) S.1 S.2.1 S.2.2.2.2 hin tyX0 tyX0_ok nmX0 S.2.2.2.1 hK hP hD hS 0 he rfl k hk (S.2.2.2.2 _ hlink) (fun x h => by rw [hsame] at h; exact h) hfin hd hn hfit hl hdg (fun H1 l1 h1 _ h3 => kk H1 l1 h1 h3)
theorem w_putM {A : Nat → Prop} {H0 : Heap} {index : Nat} {ws : va_W} {fs : List Value} {tys : List (ClassId × FieldType)} (S : CallFix p m c cc nL s args Ts RX1) (hin : ∀ w ∈ wsX10, w ∈ Ts) (hK : va_K D cls2 tys s) (hP : va_P D cls2 ws H) (hD : va_D A ws) (hS : va_S A H0 H locs) (he : ws[0]? = some (q 0, .inr (1, fs))) (k : Nat) (hk : k < 13) (hlink : Cond.fieldLink RX1 index RX1 (TX1 k).2.1 (TX1 k).2.2.1 ∈ Ts) (hfin : (TX1 k).2.2.2 = false) {ty : FieldType} {v : Value} (hd : parseFieldDescriptor (TX1 k).2.2.1 = some ty) (hn : narrow ty v = v) (hfit : fits ty v = true) (hl : k < fs.length) (hsame : (TX1 k).1 = RX1) (hdg : decode cc pc = .ok (.putfield index, 3))
    (kk : ∀ (H1 : Heap) (locs1 : List Loc), va_P D cls2 (ws.set 0 (q 0, .inr (1, fs.set k v))) H1 → va_S A H0 H1 locs1 → W p l e R s m args below meth c H1 locs1 cells slots Q (F0 m (pc + 3) ls rest)) : W p l e R s m args below meth c H locs cells slots Q (F0 m pc ls (v :: .ref (q 0) :: rest)) :=
  va_put (C := RX1) (T := TX1) (N := 13) (ci := 1) S.1 S.2.1 S.2.2.2.2 hin tyX1 tyX1_ok nmX1 S.2.2.2.1 hK hP hD hS 0 he rfl k hk (S.2.2.2.2 _ hlink) (fun x h => by rw [hsame] at h; exact h) hfin hd hn hfit hl hdg (fun H1 l1 h1 _ h3 => kk H1 l1 h1 h3)
end MYC
end
section
/-! the pure words: what the methods of both classes compute -/
def itN {α : Type} (f : Nat → α → α) : Nat → α → α
  | 0, a => a
  | k + 1, a => f k (itN f k a)
theorem itN_succ {α : Type} (f : Nat → α → α) (k : Nat) (a : α) : itN f (k + 1) a = f k (itN f k a) := rfl
theorem itN_zero {α : Type} (f : Nat → α → α) (a : α) : itN f 0 a = a := rfl
theorem nar_b (b : Bool) : narrow .boolean (.int (bI b)) = .int (bI b) := by cases b <;> rfl
theorem ag1_updD {n : Nat} {f g : Nat → UInt64} (h : ∀ j : Nat, j < n → f j = g j) (i : Nat) (v : UInt64) : ∀ j : Nat, j < n → vf_upd f i v j = vf_upd g i v j := by
  intro a ha
  unfold vf_upd
  by_cases hab : a = i
  · rw [if_pos hab, if_pos hab]
  · rw [if_neg hab, if_neg hab]
    exact h a ha
-- sums of a row, of a column
def rowS (e : Nat → Nat → UInt64) (k i : Nat) : UInt64 := itN (fun j s => FP.dadd s (e i j)) k FP.dconst0
def colS (e : Nat → Nat → UInt64) (k j : Nat) : UInt64 := itN (fun i s => FP.dadd s (e i j)) k FP.dconst0
def okR (e : Nat → Nat → UInt64) (n i : Nat) : Prop := ∀ k : Nat, k < n → vf_n64 (FP.dadd (rowS e k i) (e i k))
def okC (e : Nat → Nat → UInt64) (n j : Nat) : Prop := ∀ k : Nat, k < n → vf_n64 (FP.dadd (colS e k j) (e k j))
-- whole numbers
def sumI (f : Nat → Int32) (k : Nat) : Int32 := itN (fun j s => s + f j) k (nI 0)
def scl (c p : Int32) : Int32 := (c * p + nI 50) / nI 100
def dist (x y : UInt64) : UInt64 := if dlt (FP.dsub x y) FP.dconst0 = true then FP.dneg (FP.dsub x y) else FP.dsub x y
theorem nI_shl {a : Nat} (h : a < 31) : (nI 1) <<< (nI a &&& 31) = nI (2 ^ a) := by
  have h2 : ∀ a : Fin 31, (nI 1) <<< (nI a.1 &&& 31) = nI (2 ^ a.1) := by decide +kernel
  exact h2 ⟨a, h⟩
theorem nI_and {a b : Nat} (ha : a < 2 ^ 31) (hb : b < 2 ^ 31) : nI a &&& nI b = nI (a &&& b) := by
  apply Int32.toBitVec_inj.mp
  apply BitVec.eq_of_toNat_eq
  have e1 : ∀ x : Nat, x < 2 ^ 31 → (nI x).toBitVec.toNat = x := by
    intro x hx
    show (BitVec.ofNat 32 x).toNat = x
    rw [BitVec.toNat_ofNat]; exact Nat.mod_eq_of_lt (by omega)
  have hab : a &&& b < 2 ^ 31 := Nat.lt_of_le_of_lt Nat.and_le_left ha
  rw [e1 _ hab, Int32.toBitVec_and, BitVec.toNat_and, e1 _ ha, e1 _ hb]
theorem nI_or {a b : Nat} (ha : a < 2 ^ 31) (hb : b < 2 ^ 31) : nI a ||| nI b = nI (a ||| b) := by
  apply Int32.toBitVec_inj.mp
  apply BitVec.eq_of_toNat_eq
  have e1 : ∀ x : Nat, x < 2 ^ 31 → (nI x).toBitVec.toNat = x := by
    intro x hx
    show (BitVec.ofNat 32 x).toNat = x
    rw [BitVec.toNat_ofNat]; exact Nat.mod_eq_of_lt (by omega)
  have hab : a ||| b < 2 ^ 31 := Nat.or_lt_two_pow ha hb
  rw [e1 _ hab, Int32.toBitVec_or, BitVec.toNat_or, e1 _ ha, e1 _ hb]
theorem bit_and (s a : Nat) : (s &&& 2 ^ a = 0) ↔ s.testBit a = false := by
  constructor
  · intro h
    have h1 : (s &&& 2 ^ a).testBit a = false := by rw [h]; exact Nat.zero_testBit a
    rw [Nat.testBit_and, Nat.testBit_two_pow_self, Bool.and_true] at h1
    exact h1
  · intro h
    apply Nat.eq_of_testBit_eq
    intro i
    rw [Nat.testBit_and, Nat.zero_testBit]
    by_cases hi : i = a
    · subst hi; rw [h]; rfl
    · rw [Nat.testBit_two_pow_of_ne (Ne.symm hi), Bool.and_false]
theorem nI_bit {s a : Nat} (hs : s < 2 ^ 31) (ha : a < 31) : (nI s &&& nI (2 ^ a) = 0) ↔ s.testBit a = false := by
  have h2 : 2 ^ a < 2 ^ 31 := Nat.pow_lt_pow_of_lt (by omega) ha
  rw [nI_and hs h2, ← nI_0, nI_eq (Nat.lt_of_le_of_lt Nat.and_le_left hs) (by decide), bit_and]
end
section
abbrev rX0_turn : Room := { frames := 0, cells := 0, slots := 0, locals := 0 }
theorem hdX0_turn : yX0_turn.cls ≠ "java/lang/invoke/MethodHandle" ∧ yX0_turn.cls ≠ "java/lang/invoke/VarHandle" ∧ (parseMethodDescriptor yX0_turn.desc).map (fun d => d.parameters.length) = some 2 := by decide +kernel
set_option maxHeartbeats 4000000 in
set_option maxRecDepth 100000 in
theorem c_X0_turn {l : Launch} {i k : Nat} : Met l yX0_turn wsX0_turn rX0_turn (va_Pc [.int (nI i), .int (nI k)] (fun _ => True)) (vp_Si (fun r => r = nI (6 * i + k))) 0 0 (fun _ => False) := by
  refine met_intro (cc := cX0_turn) (maxL := 2) (ret := (some .int)) (own := RX0) (by decide) rfl rfl (Nat.le_of_ble_eq_true rfl) ?_
  intro pp ee ss mm args below meth cd Q ls hQ S hr hlocks hv hB hl
  obtain ⟨hx, hb, hml, hown, hts⟩ := id S
  have hl : lv_has ls 2 [(0, .int (nI i)), (1, .int (nI k))] := hl
  refine lv_iload_n hx hb dX0_turn_0 rfl (lv_at hl 0 rfl) ?_
  refine lv_bipush (v := nI 6) hx hb dX0_turn_1 (by decide) ?_
  refine w_imulR (N := 6) hx hb rfl dX0_turn_3 ?_
  refine lv_iload_n hx hb dX0_turn_4 rfl (lv_at hl 1 rfl) ?_
  refine w_iadd hx hb dX0_turn_5 ?_
  subst hQ
  exact W.iret hx hb hr (fun t ht hW => ⟨_, rfl, rfl, ht⟩) (fun q h => absurd h List.not_mem_nil) dX0_turn_6
abbrev rX0_contains : Room := { frames := 0, cells := 0, slots := 0, locals := 0 }
theorem hdX0_contains : yX0_contains.cls ≠ "java/lang/invoke/MethodHandle" ∧ yX0_contains.cls ≠ "java/lang/invoke/VarHandle" ∧ (parseMethodDescriptor yX0_contains.desc).map (fun d => d.parameters.length) = some 2 := by decide +kernel
set_option maxHeartbeats 4000000 in
set_option maxRecDepth 100000 in
theorem c_X0_contains {l : Launch} {s a : Nat} (hs : s < 2 ^ 31) (ha : a < 31) : Met l yX0_contains wsX0_contains rX0_contains (va_Pc [.int (nI s), .int (nI a)] (fun _ => True)) (vp_Si (fun r => r = bI (s.testBit a))) 0 0 (fun _ => False) := by
  refine met_intro (cc := cX0_contains) (maxL := 2) (ret := (some .boolean)) (own := RX0) (by decide) rfl rfl (Nat.le_of_ble_eq_true rfl) ?_
  intro pp ee ss mm args below meth cd Q ls hQ S hr hlocks hv hB hl
  obtain ⟨hx, hb, hml, hown, hts⟩ := id S
  have hl : lv_has ls 2 [(0, .int (nI s)), (1, .int (nI a))] := hl
  refine lv_iload_n hx hb dX0_contains_0 rfl (lv_at hl 0 rfl) ?_
  refine lv_iconst (v := nI 1) hx hb dX0_contains_1 (by decide) ?_
  refine lv_iload_n hx hb dX0_contains_2 rfl (lv_at hl 1 rfl) ?_
  refine lv_ishl hx hb dX0_contains_3 ?_
  rw [nI_shl ha]
  refine lv_iand hx hb dX0_contains_4 ?_
  refine lv_if_eq (tgt := 12) hx hb dX0_contains_5 (by decide) (fun h5_0 => ?_) (fun h5_0 => ?_)
  · refine lv_iconst (v := nI 0) hx hb dX0_contains_12 (by decide) ?_
    subst hQ
    exact W.zret hx hb hr (by decide) (fun t ht hW => ⟨_, rfl, (by rw [(nI_bit hs ha).mp h5_0]; rfl), ht⟩) (fun q h => absurd h List.not_mem_nil) dX0_contains_13
  · refine lv_iconst (v := nI 1) hx hb dX0_contains_8 (by decide) ?_
    refine lv_goto (tgt := 13) hx hb dX0_contains_9 (by decide) ?_
    subst hQ
    exact W.zret hx hb hr (by decide) (fun t ht hW => ⟨_, rfl, (by rw [show s.testBit a = true from by cases hh : s.testBit a; exact absurd ((nI_bit hs ha).mpr hh) h5_0; rfl]; rfl), ht⟩) (fun q h => absurd h List.not_mem_nil) dX0_contains_13
abbrev rX0_rowSum : Room := { frames := 1, cells := 0, slots := 0, locals := 21 }
theorem hdX0_rowSum : yX0_rowSum.cls = RX0 ∧ yX0_rowSum.cls ≠ "java/lang/invoke/MethodHandle" ∧ yX0_rowSum.cls ≠ "java/lang/invoke/VarHandle" ∧ (parseMethodDescriptor yX0_rowSum.desc).map (fun d => d.parameters.length) = some 1 := by decide +kernel
set_option maxHeartbeats 4000000 in
set_option maxRecDepth 100000 in
theorem c_X0_rowSum {l : Launch} {D : va_G} {q : Nat → Nat} {cI cD : ClassId} {rC : Int32} {fi fo fw : Nat → Int32} {fe : Nat → UInt64} {ft fr fp fl : Nat → Int32} {ff : Nat → UInt64} {n : Nat} (hn : 3 ≤ n ∧ n ≤ 6) {e : Nat → Nat → UInt64} (hE : ag2 n fe e) {i : Nat} (hi : i < n) (ho : okR e n i) : Met l yX0_rowSum wsX0_rowSum rX0_rowSum (va_Pc [.ref (q 0), .int (nI i)] (wPre D (tys2 cI cD) (cW q cI cD (nI n) rC fi fo fw fe ft fr fp fl ff))) (vp_Sd (fun r => r = rowS e n i)) 0 0 (fun _ => False) := by
  refine met_intro (cc := cX0_rowSum) (maxL := 5) (ret := (some .double)) (own := RX0) (by decide) rfl rfl (Nat.le_of_ble_eq_true rfl) ?_
  intro pp ee ss mm args below meth cd Q ls hQ S hr hlocks hv hB hl
  obtain ⟨hx, hb, hml, hown, hts⟩ := id S
  obtain ⟨hP, hK⟩ := hB
  have in_w : ∀ w ∈ wsX00, w ∈ wsX0_rowSum := by decide +kernel
  have fl_19 : Cond.fieldLink RX0 19 RX0 (TX0 3).2.1 (TX0 3).2.2.1 ∈ wsX0_rowSum := by decide +kernel
  have fl_46 : Cond.fieldLink RX0 46 RX0 (TX0 9).2.1 (TX0 9).2.2.1 ∈ wsX0_rowSum := by decide +kernel
  have hl : lv_has ls 5 [(0, .ref (q 0)), (1, .int (nI i))] := hl
  refine lv_dconst0 hx hb dX0_rowSum_0 ?_
  refine lv_dstore_n (lv' := [(2, .double FP.dconst0), (0, .ref (q 0)), (1, .int (nI i))]) hx hb dX0_rowSum_1 rfl hl (by decide) rfl (fun ls hl => ?_)
  refine lv_iconst (v := nI 0) hx hb dX0_rowSum_2 (by decide) ?_
  refine lv_istore (lv' := [(4, .int (nI 0)), (2, .double FP.dconst0), (0, .ref (q 0)), (1, .int (nI i))]) hx hb dX0_rowSum_3 hl (by decide) rfl (fun ls hl => ?_)
  have lp5 : ∀ (j k : Nat), k + j = n → ∀ ls : Array Slot, lv_has ls 5 [(0, .ref (q 0)), (1, .int (nI i)), (2, .double (rowS e k i)), (4, .int (nI k))] → W pp l ee rX0_rowSum ss mm args below meth cd ss.heap [] 0 0 Q (F0 mm 5 ls []) := by
    intro j
    induction j with
    | zero =>
      intro k hk_k ls hl
      have hke_k : n = k := by omega
      subst hke_k
      refine lv_iload hx hb dX0_rowSum_5 (lv_at hl 3 rfl) ?_
      refine lv_aload_n hx hb dX0_rowSum_7 rfl (lv_at hl 0 rfl) ?_
      refine w_getC (own := RX0) (v := .int (nI n)) S in_w hK hP rfl 9 (by decide) fl_46 rfl rfl dX0_rowSum_8 ?_
      refine lv_icmp_ge (tgt := 34) hx hb dX0_rowSum_11 (by decide) (fun h11_0 => ?_) (fun h11_0 => absurd (Int32.le_refl _) h11_0)
      refine lv_dload_n hx hb dX0_rowSum_34 rfl (lv_at hl 2 rfl) ?_
      subst hQ
      exact W.dret hx hb hr (fun t ht hW => ⟨_, rfl, rfl, ht⟩) (fun q h => absurd h List.not_mem_nil) dX0_rowSum_35
    | succ j ih =>
      intro k hk_k ls hl
      have hlt_k : k < n := by omega
      refine lv_iload hx hb dX0_rowSum_5 (lv_at hl 3 rfl) ?_
      refine lv_aload_n hx hb dX0_rowSum_7 rfl (lv_at hl 0 rfl) ?_
      refine w_getC (own := RX0) (v := .int (nI n)) S in_w hK hP rfl 9 (by decide) fl_46 rfl rfl dX0_rowSum_8 ?_
      refine lv_icmp_ge (tgt := 34) hx hb dX0_rowSum_11 (by decide) (fun h11_0 => absurd h11_0 (nI_ge hlt_k (by omega))) (fun h11_0 => ?_)
      refine lv_dload_n hx hb dX0_rowSum_14 rfl (lv_at hl 2 rfl) ?_
      refine lv_aload_n hx hb dX0_rowSum_15 rfl (lv_at hl 0 rfl) ?_
      refine w_getC (own := RX0) (v := .ref (q 4)) S in_w hK hP rfl 3 (by decide) fl_19 rfl rfl dX0_rowSum_16 ?_
      refine lv_iload_n hx hb dX0_rowSum_19 rfl (lv_at hl 1 rfl) ?_
      refine lv_iload hx hb dX0_rowSum_20 (lv_at hl 3 rfl) ?_
      refine vp_callSi (W.runS (As := [.int (nI i), .int (nI k)]) (rest := [.ref (q 4), .double (rowS e k i)]) S (c_X0_turn (i := i) (k := k)) (va_cwS 2 hts gX0_rowSum_X0_turn rfl rfl rfl hdX0_turn ⟨Nat.le_of_ble_eq_true rfl, Nat.le_of_ble_eq_true rfl⟩) preS rfl rfl hl.1 rfl (lv_room (Nat.le_of_ble_eq_true rfl)) dX0_rowSum_22 ⟨Nat.zero_le _, Nat.zero_le _⟩) (fun r_1 er_1 => ?_)
      subst er_1
      refine w_dald hx hb hK hP 4 1 rfl rfl (j := 6 * i + k) (v := e i k) (hE i k (by omega) (by omega)) (by omega) (by decide) dX0_rowSum_25 ?_
      refine lv_dadd hx hb dX0_rowSum_26 (ho k (by omega)) ?_
      refine lv_dstore_n (lv' := [(2, .double (FP.dadd (rowS e k i) (e i k))), (0, .ref (q 0)), (1, .int (nI i)), (4, .int (nI k))]) hx hb dX0_rowSum_27 rfl hl (by decide) rfl (fun ls hl => ?_)
      refine lv_iinc (v := nI (k + 1)) (lv' := [(4, .int (nI (k + 1))), (2, .double (FP.dadd (rowS e k i) (e i k))), (0, .ref (q 0)), (1, .int (nI i))]) hx hb dX0_rowSum_28 hl (k := 3) rfl (by rw [show Int32.ofInt 1 = nI 1 from by decide, nI_add]) (by decide) rfl (fun ls hl => ?_)
      refine lv_goto (tgt := 5) hx hb dX0_rowSum_31 (by decide) ?_
      have eq_2 : rowS e (k + 1) i = FP.dadd (rowS e k i) (e i k) := by rfl
      have hl : lv_has ls 5 [(4, .int (nI (k + 1))), (2, .double (rowS e (k + 1) i)), (0, .ref (q 0)), (1, .int (nI i))] := by first | exact hl | (rw [eq_2]; exact hl)
      exact ih (k + 1) (by omega) ls (lv_sub hl [2, 3, 1, 0] rfl)
  exact lp5 (n - 0) 0 (by omega) ls (lv_sub hl [2, 3, 1, 0] rfl)
abbrev rX0_columnSum : Room := { frames := 1, cells := 0, slots := 0, locals := 21 }
theorem hdX0_columnSum : yX0_columnSum.cls = RX0 ∧ yX0_columnSum.cls ≠ "java/lang/invoke/MethodHandle" ∧ yX0_columnSum.cls ≠ "java/lang/invoke/VarHandle" ∧ (parseMethodDescriptor yX0_columnSum.desc).map (fun d => d.parameters.length) = some 1 := by decide +kernel
set_option maxHeartbeats 4000000 in
set_option maxRecDepth 100000 in
theorem c_X0_columnSum {l : Launch} {D : va_G} {q : Nat → Nat} {cI cD : ClassId} {rC : Int32} {fi fo fw : Nat → Int32} {fe : Nat → UInt64} {ft fr fp fl : Nat → Int32} {ff : Nat → UInt64} {n : Nat} (hn : 3 ≤ n ∧ n ≤ 6) {e : Nat → Nat → UInt64} (hE : ag2 n fe e) {i : Nat} (hi : i < n) (ho : okC e n i) : Met l yX0_columnSum wsX0_columnSum rX0_columnSum (va_Pc [.ref (q 0), .int (nI i)] (wPre D (tys2 cI cD) (cW q cI cD (nI n) rC fi fo fw fe ft fr fp fl ff))) (vp_Sd (fun r => r = colS e n i)) 0 0 (fun _ => False) := by
  refine met_intro (cc := cX0_columnSum) (maxL := 5) (ret := (some .double)) (own := RX0) (by decide) rfl rfl (Nat.le_of_ble_eq_true rfl) ?_
  intro pp ee ss mm args below meth cd Q ls hQ S hr hlocks hv hB hl
  obtain ⟨hx, hb, hml, hown, hts⟩ := id S
  obtain ⟨hP, hK⟩ := hB
  have in_w : ∀ w ∈ wsX00, w ∈ wsX0_columnSum := by decide +kernel
  have fl_19 : Cond.fieldLink RX0 19 RX0 (TX0 3).2.1 (TX0 3).2.2.1 ∈ wsX0_columnSum := by decide +kernel
  have fl_46 : Cond.fieldLink RX0 46 RX0 (TX0 9).2.1 (TX0 9).2.2.1 ∈ wsX0_columnSum := by decide +kernel
  have hl : lv_has ls 5 [(0, .ref (q 0)), (1, .int (nI i))] := hl
  refine lv_dconst0 hx hb dX0_columnSum_0 ?_
  refine lv_dstore_n (lv' := [(2, .double FP.dconst0), (0, .ref (q 0)), (1, .int (nI i))]) hx hb dX0_columnSum_1 rfl hl (by decide) rfl (fun ls hl => ?_)
  refine lv_iconst (v := nI 0) hx hb dX0_columnSum_2 (by decide) ?_
  refine lv_istore (lv' := [(4, .int (nI 0)), (2, .double FP.dconst0), (0, .ref (q 0)), (1, .int (nI i))]) hx hb dX0_columnSum_3 hl (by decide) rfl (fun ls hl => ?_)
  have lp5 : ∀ (j k : Nat), k + j = n → ∀ ls : Array Slot, lv_has ls 5 [(0, .ref (q 0)), (1, .int (nI i)), (2, .double (colS e k i)), (4, .int (nI k))] → W pp l ee rX0_columnSum ss mm args below meth cd ss.heap [] 0 0 Q (F0 mm 5 ls []) := by
    intro j
    induction j with
    | zero =>
      intro k hk_k ls hl
      have hke_k : n = k := by omega
      subst hke_k
      refine lv_iload hx hb dX0_columnSum_5 (lv_at hl 3 rfl) ?_
      refine lv_aload_n hx hb dX0_columnSum_7 rfl (lv_at hl 0 rfl) ?_
      refine w_getC (own := RX0) (v := .int (nI n)) S in_w hK hP rfl 9 (by decide) fl_46 rfl rfl dX0_columnSum_8 ?_
      refine lv_icmp_ge (tgt := 34) hx hb dX0_columnSum_11 (by decide) (fun h11_0 => ?_) (fun h11_0 => absurd (Int32.le_refl _) h11_0)
      refine lv_dload_n hx hb dX0_columnSum_34 rfl (lv_at hl 2 rfl) ?_
      subst hQ
      exact W.dret hx hb hr (fun t ht hW => ⟨_, rfl, rfl, ht⟩) (fun q h => absurd h List.not_mem_nil) dX0_columnSum_35
    | succ j ih =>
      intro k hk_k ls hl
      have hlt_k : k < n := by omega
      refine lv_iload hx hb dX0_columnSum_5 (lv_at hl 3 rfl) ?_
      refine lv_aload_n hx hb dX0_columnSum_7 rfl (lv_at hl 0 rfl) ?_
      refine w_getC (own := RX0) (v := .int (nI n)) S in_w hK hP rfl 9 (by decide) fl_46 rfl rfl dX0_columnSum_8 ?_
      refine lv_icmp_ge (tgt := 34) hx hb dX0_columnSum_11 (by decide) (fun h11_0 => absurd h11_0 (nI_ge hlt_k (by omega))) (fun h11_0 => ?_)
      refine lv_dload_n hx hb dX0_columnSum_14 rfl (lv_at hl 2 rfl) ?_
      refine lv_aload_n hx hb dX0_columnSum_15 rfl (lv_at hl 0 rfl) ?_
      refine w_getC (own := RX0) (v := .ref (q 4)) S in_w hK hP rfl 3 (by decide) fl_19 rfl rfl dX0_columnSum_16 ?_
      refine lv_iload hx hb dX0_columnSum_19 (lv_at hl 3 rfl) ?_
      refine lv_iload_n hx hb dX0_columnSum_21 rfl (lv_at hl 1 rfl) ?_
      refine vp_callSi (W.runS (As := [.int (nI k), .int (nI i)]) (rest := [.ref (q 4), .double (colS e k i)]) S (c_X0_turn (i := k) (k := i)) (va_cwS 2 hts gX0_columnSum_X0_turn rfl rfl rfl hdX0_turn ⟨Nat.le_of_ble_eq_true rfl, Nat.le_of_ble_eq_true rfl⟩) preS rfl rfl hl.1 rfl (lv_room (Nat.le_of_ble_eq_true rfl)) dX0_columnSum_22 ⟨Nat.zero_le _, Nat.zero_le _⟩) (fun r_1 er_1 => ?_)
      subst er_1
      refine w_dald hx hb hK hP 4 1 rfl rfl (j := 6 * k + i) (v := e k i) (hE k i (by omega) (by omega)) (by omega) (by decide) dX0_columnSum_25 ?_
      refine lv_dadd hx hb dX0_columnSum_26 (ho k (by omega)) ?_
      refine lv_dstore_n (lv' := [(2, .double (FP.dadd (colS e k i) (e k i))), (0, .ref (q 0)), (1, .int (nI i)), (4, .int (nI k))]) hx hb dX0_columnSum_27 rfl hl (by decide) rfl (fun ls hl => ?_)
      refine lv_iinc (v := nI (k + 1)) (lv' := [(4, .int (nI (k + 1))), (2, .double (FP.dadd (colS e k i) (e k i))), (0, .ref (q 0)), (1, .int (nI i))]) hx hb dX0_columnSum_28 hl (k := 3) rfl (by rw [show Int32.ofInt 1 = nI 1 from by decide, nI_add]) (by decide) rfl (fun ls hl => ?_)
      refine lv_goto (tgt := 5) hx hb dX0_columnSum_31 (by decide) ?_
      have eq_2 : colS e (k + 1) i = FP.dadd (colS e k i) (e k i) := by rfl
      have hl : lv_has ls 5 [(4, .int (nI (k + 1))), (2, .double (colS e (k + 1) i)), (0, .ref (q 0)), (1, .int (nI i))] := by first | exact hl | (rw [eq_2]; exact hl)
      exact ih (k + 1) (by omega) ls (lv_sub hl [2, 3, 1, 0] rfl)
  exact lp5 (n - 0) 0 (by omega) ls (lv_sub hl [2, 3, 1, 0] rfl)
abbrev rX0_distance : Room := { frames := 0, cells := 0, slots := 0, locals := 0 }
theorem hdX0_distance : yX0_distance.cls ≠ "java/lang/invoke/MethodHandle" ∧ yX0_distance.cls ≠ "java/lang/invoke/VarHandle" ∧ (parseMethodDescriptor yX0_distance.desc).map (fun d => d.parameters.length) = some 2 := by decide +kernel
set_option maxHeartbeats 4000000 in
set_option maxRecDepth 100000 in
theorem c_X0_distance {l : Launch} {x y : UInt64} (ho : vf_n64 (FP.dsub x y)) : Met l yX0_distance wsX0_distance rX0_distance (va_Pc [.double x, .double y] (fun _ => True)) (vp_Sd (fun r => r = dist x y)) 0 0 (fun _ => False) := by
  refine met_intro (cc := cX0_distance) (maxL := 6) (ret := (some .double)) (own := RX0) (by decide) rfl rfl (Nat.le_of_ble_eq_true rfl) ?_
  intro pp ee ss mm args below meth cd Q ls hQ S hr hlocks hv hB hl
  obtain ⟨hx, hb, hml, hown, hts⟩ := id S
  have hl : lv_has ls 6 [(0, .double x), (2, .double y)] := hl
  refine lv_dload_n hx hb dX0_distance_0 rfl (lv_at hl 0 rfl) ?_
  refine lv_dload_n hx hb dX0_distance_1 rfl (lv_at hl 1 rfl) ?_
  refine lv_dsub hx hb dX0_distance_2 ho ?_
  refine lv_dstore (lv' := [(4, .double (FP.dsub x y)), (0, .double x), (2, .double y)]) hx hb dX0_distance_3 hl (by decide) rfl (fun ls hl => ?_)
  refine lv_dload hx hb dX0_distance_5 (lv_at hl 0 rfl) ?_
  refine lv_dconst0 hx hb dX0_distance_7 ?_
  refine w_dlt (tgt := 18) hx hb dX0_distance_8 dX0_distance_9 (by decide) (fun h8_0 => ?_) (fun h8_0 => ?_)
  · refine lv_dload hx hb dX0_distance_18 (lv_at hl 0 rfl) ?_
    subst hQ
    exact W.dret hx hb hr (fun t ht hW => ⟨_, rfl, (by unfold dist; rw [h8_0]; rfl), ht⟩) (fun q h => absurd h List.not_mem_nil) dX0_distance_20
  · refine lv_dload hx hb dX0_distance_12 (lv_at hl 0 rfl) ?_
    refine lv_dneg hx hb dX0_distance_14 ?_
    refine lv_goto (tgt := 20) hx hb dX0_distance_15 (by decide) ?_
    subst hQ
    exact W.dret hx hb hr (fun t ht hW => ⟨_, rfl, (by unfold dist; rw [h8_0]; rfl), ht⟩) (fun q h => absurd h List.not_mem_nil) dX0_distance_20
abbrev rX0_scaled : Room := { frames := 0, cells := 0, slots := 0, locals := 0 }
theorem hdX0_scaled : yX0_scaled.cls ≠ "java/lang/invoke/MethodHandle" ∧ yX0_scaled.cls ≠ "java/lang/invoke/VarHandle" ∧ (parseMethodDescriptor yX0_scaled.desc).map (fun d => d.parameters.length) = some 2 := by decide +kernel
set_option maxHeartbeats 4000000 in
set_option maxRecDepth 100000 in
theorem c_X0_scaled {l : Launch} {a b : Int32} : Met l yX0_scaled wsX0_scaled rX0_scaled (va_Pc [.int a, .int b] (fun _ => True)) (vp_Si (fun r => r = scl a b)) 0 0 (fun _ => False) := by
  refine met_intro (cc := cX0_scaled) (maxL := 2) (ret := (some .int)) (own := RX0) (by decide) rfl rfl (Nat.le_of_ble_eq_true rfl) ?_
  intro pp ee ss mm args below meth cd Q ls hQ S hr hlocks hv hB hl
  obtain ⟨hx, hb, hml, hown, hts⟩ := id S
  have hl : lv_has ls 2 [(0, .int a), (1, .int b)] := hl
  refine lv_iload_n hx hb dX0_scaled_0 rfl (lv_at hl 0 rfl) ?_
  refine lv_iload_n hx hb dX0_scaled_1 rfl (lv_at hl 1 rfl) ?_
  refine lv_imul hx hb dX0_scaled_2 ?_
  refine lv_bipush (v := nI 50) hx hb dX0_scaled_3 (by decide) ?_
  refine lv_iadd hx hb dX0_scaled_5 ?_
  refine lv_bipush (v := nI 100) hx hb dX0_scaled_6 (by decide) ?_
  refine lv_idiv hx hb dX0_scaled_8 (by decide) ?_
  subst hQ
  exact W.iret hx hb hr (fun t ht hW => ⟨_, rfl, rfl, ht⟩) (fun q h => absurd h List.not_mem_nil) dX0_scaled_9
abbrev rX0_mixed : Room := { frames := 0, cells := 0, slots := 0, locals := 0 }
theorem hdX0_mixed : yX0_mixed.cls ≠ "java/lang/invoke/MethodHandle" ∧ yX0_mixed.cls ≠ "java/lang/invoke/VarHandle" ∧ (parseMethodDescriptor yX0_mixed.desc).map (fun d => d.parameters.length) = some 2 := by decide +kernel
set_option maxHeartbeats 4000000 in
set_option maxRecDepth 100000 in
theorem c_X0_mixed {l : Launch} {a b : Int64} : Met l yX0_mixed wsX0_mixed rX0_mixed (va_Pc [.long a, .long b] (fun _ => True)) (vp_Sl (fun r => r = 31 * a + b)) 0 0 (fun _ => False) := by
  refine met_intro (cc := cX0_mixed) (maxL := 4) (ret := (some .long)) (own := RX0) (by decide) rfl rfl (Nat.le_of_ble_eq_true rfl) ?_
  intro pp ee ss mm args below meth cd Q ls hQ S hr hlocks hv hB hl
  obtain ⟨hx, hb, hml, hown, hts⟩ := id S
  have hl : lv_has ls 4 [(0, .long a), (2, .long b)] := hl
  refine lv_ldc2 (v := 31) hx hb hown (hts (.constantLong RX0 214 31) (by decide +kernel)) dX0_mixed_0 ?_
  refine lv_lload_n hx hb dX0_mixed_3 rfl (lv_at hl 0 rfl) ?_
  refine lv_lmul hx hb dX0_mixed_4 ?_
  refine lv_lload_n hx hb dX0_mixed_5 rfl (lv_at hl 1 rfl) ?_
  refine lv_ladd hx hb dX0_mixed_6 ?_
  subst hQ
  exact W.lret hx hb hr (fun t ht hW => ⟨_, rfl, rfl, ht⟩) (fun q h => absurd h List.not_mem_nil) dX0_mixed_7
abbrev rX0_thousandthsOf : Room := { frames := 0, cells := 0, slots := 0, locals := 0 }
theorem hdX0_thousandthsOf : yX0_thousandthsOf.cls ≠ "java/lang/invoke/MethodHandle" ∧ yX0_thousandthsOf.cls ≠ "java/lang/invoke/VarHandle" ∧ (parseMethodDescriptor yX0_thousandthsOf.desc).map (fun d => d.parameters.length) = some 1 := by decide +kernel
set_option maxHeartbeats 4000000 in
set_option maxRecDepth 100000 in
theorem c_X0_thousandthsOf {l : Launch} {x : UInt64} (ho : vf_n64 (FP.dmul x 4652007308841189376)) : Met l yX0_thousandthsOf wsX0_thousandthsOf rX0_thousandthsOf (va_Pc [.double x] (fun _ => True)) (vp_Sl (fun r => r = FP.d2l (FP.dmul x 4652007308841189376))) 0 0 (fun _ => False) := by
  refine met_intro (cc := cX0_thousandthsOf) (maxL := 2) (ret := (some .long)) (own := RX0) (by decide) rfl rfl (Nat.le_of_ble_eq_true rfl) ?_
  intro pp ee ss mm args below meth cd Q ls hQ S hr hlocks hv hB hl
  obtain ⟨hx, hb, hml, hown, hts⟩ := id S
  have hl : lv_has ls 2 [(0, .double x)] := hl
  refine lv_dload_n hx hb dX0_thousandthsOf_0 rfl (lv_at hl 0 rfl) ?_
  refine lv_ldc2d (v := 4652007308841189376) hx hb hown (hts (.constantDouble RX0 99 4652007308841189376) (by decide +kernel)) dX0_thousandthsOf_1 ?_
  refine lv_dmul hx hb dX0_thousandthsOf_4 ho ?_
  refine lv_d2l hx hb dX0_thousandthsOf_5 ?_
  subst hQ
  exact W.lret hx hb hr (fun t ht hW => ⟨_, rfl, rfl, ht⟩) (fun q h => absurd h List.not_mem_nil) dX0_thousandthsOf_6
end
