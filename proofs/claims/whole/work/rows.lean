section
/-- a private method of a class that the tables say can be made, by its rows of tables_1 -/
def lw_okq (q : MethodName × Nat) : Prop := (q.1.cls ≠ "java/lang/invoke/MethodHandle" ∧ q.1.cls ≠ "java/lang/invoke/VarHandle") ∧ Cond.instantiable q.1.cls q.2 ∈ tables_1 ∧ Cond.privateMethod q.1 ∈ tables_1 ∧ Cond.instanceMethod q.1 ∈ tables_1
theorem lw_p0 : lw_okq (⟨"TurnEstimator", "beginJunction", "(I)V"⟩, 11) := ⟨⟨by decide +kernel, by decide +kernel⟩, List.mem_of_getElem? (i := 15) (by decide +kernel), List.mem_of_getElem? (i := 23) (by decide +kernel), List.mem_of_getElem? (i := 24) (by decide +kernel)⟩
theorem lw_p1 : lw_okq (⟨"TurnEstimator", "putWeight", "(III)V"⟩, 11) := ⟨⟨by decide +kernel, by decide +kernel⟩, List.mem_of_getElem? (i := 15) (by decide +kernel), List.mem_of_getElem? (i := 27) (by decide +kernel), List.mem_of_getElem? (i := 28) (by decide +kernel)⟩
theorem lw_p2 : lw_okq (⟨"TurnEstimator", "resetEstimate", "()V"⟩, 11) := ⟨⟨by decide +kernel, by decide +kernel⟩, List.mem_of_getElem? (i := 15) (by decide +kernel), List.mem_of_getElem? (i := 34) (by decide +kernel), List.mem_of_getElem? (i := 35) (by decide +kernel)⟩
theorem lw_p3 : lw_okq (⟨"TurnEstimator", "total", "([I)I"⟩, 11) := ⟨⟨by decide +kernel, by decide +kernel⟩, List.mem_of_getElem? (i := 15) (by decide +kernel), List.mem_of_getElem? (i := 82) (by decide +kernel), List.mem_of_getElem? (i := 83) (by decide +kernel)⟩
theorem lw_p4 : lw_okq (⟨"TurnEstimator", "allArms", "()I"⟩, 11) := ⟨⟨by decide +kernel, by decide +kernel⟩, List.mem_of_getElem? (i := 15) (by decide +kernel), List.mem_of_getElem? (i := 95) (by decide +kernel), List.mem_of_getElem? (i := 96) (by decide +kernel)⟩
theorem lw_p5 : lw_okq (⟨"TurnEstimator", "excessOver", "(I[I)I"⟩, 11) := ⟨⟨by decide +kernel, by decide +kernel⟩, List.mem_of_getElem? (i := 15) (by decide +kernel), List.mem_of_getElem? (i := 99) (by decide +kernel), List.mem_of_getElem? (i := 100) (by decide +kernel)⟩
theorem lw_p6 : lw_okq (⟨"TurnEstimator", "reachedFrom", "(I)I"⟩, 11) := ⟨⟨by decide +kernel, by decide +kernel⟩, List.mem_of_getElem? (i := 15) (by decide +kernel), List.mem_of_getElem? (i := 103) (by decide +kernel), List.mem_of_getElem? (i := 104) (by decide +kernel)⟩
theorem lw_p7 : lw_okq (⟨"TurnEstimator", "rowSum", "(I)D"⟩, 11) := ⟨⟨by decide +kernel, by decide +kernel⟩, List.mem_of_getElem? (i := 15) (by decide +kernel), List.mem_of_getElem? (i := 123) (by decide +kernel), List.mem_of_getElem? (i := 124) (by decide +kernel)⟩
theorem lw_p8 : lw_okq (⟨"TurnEstimator", "columnSum", "(I)D"⟩, 11) := ⟨⟨by decide +kernel, by decide +kernel⟩, List.mem_of_getElem? (i := 15) (by decide +kernel), List.mem_of_getElem? (i := 130) (by decide +kernel), List.mem_of_getElem? (i := 131) (by decide +kernel)⟩
theorem lw_p9 : lw_okq (⟨"TurnEstimator", "roundAllRows", "()V"⟩, 11) := ⟨⟨by decide +kernel, by decide +kernel⟩, List.mem_of_getElem? (i := 15) (by decide +kernel), List.mem_of_getElem? (i := 142) (by decide +kernel), List.mem_of_getElem? (i := 143) (by decide +kernel)⟩
theorem lw_p10 : lw_okq (⟨"TurnEstimator", "roundRow", "(I)V"⟩, 11) := ⟨⟨by decide +kernel, by decide +kernel⟩, List.mem_of_getElem? (i := 15) (by decide +kernel), List.mem_of_getElem? (i := 146) (by decide +kernel), List.mem_of_getElem? (i := 147) (by decide +kernel)⟩
theorem lw_p11 : lw_okq (⟨"TurnEstimator", "raiseGreatestFractions", "(II)V"⟩, 11) := ⟨⟨by decide +kernel, by decide +kernel⟩, List.mem_of_getElem? (i := 15) (by decide +kernel), List.mem_of_getElem? (i := 150) (by decide +kernel), List.mem_of_getElem? (i := 151) (by decide +kernel)⟩
theorem lw_p12 : lw_okq (⟨"TurnEstimator", "greatestFraction", "(I)I"⟩, 11) := ⟨⟨by decide +kernel, by decide +kernel⟩, List.mem_of_getElem? (i := 15) (by decide +kernel), List.mem_of_getElem? (i := 157) (by decide +kernel), List.mem_of_getElem? (i := 158) (by decide +kernel)⟩
theorem lw_p13 : lw_okq (⟨"TurnEstimator", "isOpen", "(II)Z"⟩, 11) := ⟨⟨by decide +kernel, by decide +kernel⟩, List.mem_of_getElem? (i := 15) (by decide +kernel), List.mem_of_getElem? (i := 162) (by decide +kernel), List.mem_of_getElem? (i := 163) (by decide +kernel)⟩
theorem lw_p14 : lw_okq (⟨"TurnEstimator", "roundedDifference", "()I"⟩, 11) := ⟨⟨by decide +kernel, by decide +kernel⟩, List.mem_of_getElem? (i := 15) (by decide +kernel), List.mem_of_getElem? (i := 166) (by decide +kernel), List.mem_of_getElem? (i := 167) (by decide +kernel)⟩
theorem lw_p15 : lw_okq (⟨"TurnEstimator", "fillPossibleTable", "()V"⟩, 11) := ⟨⟨by decide +kernel, by decide +kernel⟩, List.mem_of_getElem? (i := 15) (by decide +kernel), List.mem_of_getElem? (i := 177) (by decide +kernel), List.mem_of_getElem? (i := 178) (by decide +kernel)⟩
def lw_privs_1 : List (MethodName × Nat) := [(⟨"TurnEstimator", "beginJunction", "(I)V"⟩, 11), (⟨"TurnEstimator", "putWeight", "(III)V"⟩, 11), (⟨"TurnEstimator", "resetEstimate", "()V"⟩, 11), (⟨"TurnEstimator", "total", "([I)I"⟩, 11), (⟨"TurnEstimator", "allArms", "()I"⟩, 11), (⟨"TurnEstimator", "excessOver", "(I[I)I"⟩, 11), (⟨"TurnEstimator", "reachedFrom", "(I)I"⟩, 11), (⟨"TurnEstimator", "rowSum", "(I)D"⟩, 11), (⟨"TurnEstimator", "columnSum", "(I)D"⟩, 11), (⟨"TurnEstimator", "roundAllRows", "()V"⟩, 11), (⟨"TurnEstimator", "roundRow", "(I)V"⟩, 11), (⟨"TurnEstimator", "raiseGreatestFractions", "(II)V"⟩, 11), (⟨"TurnEstimator", "greatestFraction", "(I)I"⟩, 11), (⟨"TurnEstimator", "isOpen", "(II)Z"⟩, 11), (⟨"TurnEstimator", "roundedDifference", "()I"⟩, 11), (⟨"TurnEstimator", "fillPossibleTable", "()V"⟩, 11)]
theorem lw_r1 : ∀ q ∈ lw_privs_1, lw_okq q := List.forall_mem_cons.mpr ⟨lw_p0, List.forall_mem_cons.mpr ⟨lw_p1, List.forall_mem_cons.mpr ⟨lw_p2, List.forall_mem_cons.mpr ⟨lw_p3, List.forall_mem_cons.mpr ⟨lw_p4, List.forall_mem_cons.mpr ⟨lw_p5, List.forall_mem_cons.mpr ⟨lw_p6, List.forall_mem_cons.mpr ⟨lw_p7, List.forall_mem_cons.mpr ⟨lw_p8, List.forall_mem_cons.mpr ⟨lw_p9, List.forall_mem_cons.mpr ⟨lw_p10, List.forall_mem_cons.mpr ⟨lw_p11, List.forall_mem_cons.mpr ⟨lw_p12, List.forall_mem_cons.mpr ⟨lw_p13, List.forall_mem_cons.mpr ⟨lw_p14, List.forall_mem_cons.mpr ⟨lw_p15, fun _ h => absurd h List.not_mem_nil⟩⟩⟩⟩⟩⟩⟩⟩⟩⟩⟩⟩⟩⟩⟩⟩
theorem lw_p16 : lw_okq (⟨"TurnEstimator", "greatestPossible", "(III)I"⟩, 11) := ⟨⟨by decide +kernel, by decide +kernel⟩, List.mem_of_getElem? (i := 15) (by decide +kernel), List.mem_of_getElem? (i := 185) (by decide +kernel), List.mem_of_getElem? (i := 186) (by decide +kernel)⟩
theorem lw_p17 : lw_okq (⟨"TurnEstimator", "mixedTurn", "(JI)J"⟩, 11) := ⟨⟨by decide +kernel, by decide +kernel⟩, List.mem_of_getElem? (i := 15) (by decide +kernel), List.mem_of_getElem? (i := 194) (by decide +kernel), List.mem_of_getElem? (i := 195) (by decide +kernel)⟩
theorem lw_p18 : lw_okq (⟨"java/lang/Throwable", "fillInStackTrace", "(I)Ljava/lang/Throwable;"⟩, 6) := ⟨⟨by decide +kernel, by decide +kernel⟩, List.mem_of_getElem? (i := 255) (by decide +kernel), List.mem_of_getElem? (i := 253) (by decide +kernel), List.mem_of_getElem? (i := 254) (by decide +kernel)⟩
theorem lw_p19 : lw_okq (⟨"TurnEstimator", "setCount", "([III)I"⟩, 11) := ⟨⟨by decide +kernel, by decide +kernel⟩, List.mem_of_getElem? (i := 15) (by decide +kernel), List.mem_of_getElem? (i := 316) (by decide +kernel), List.mem_of_getElem? (i := 317) (by decide +kernel)⟩
theorem lw_p20 : lw_okq (⟨"TurnEstimator", "requireArm", "(I)V"⟩, 11) := ⟨⟨by decide +kernel, by decide +kernel⟩, List.mem_of_getElem? (i := 15) (by decide +kernel), List.mem_of_getElem? (i := 320) (by decide +kernel), List.mem_of_getElem? (i := 321) (by decide +kernel)⟩
theorem lw_p21 : lw_okq (⟨"TurnEstimator", "carryOutRound", "()V"⟩, 11) := ⟨⟨by decide +kernel, by decide +kernel⟩, List.mem_of_getElem? (i := 15) (by decide +kernel), List.mem_of_getElem? (i := 395) (by decide +kernel), List.mem_of_getElem? (i := 396) (by decide +kernel)⟩
theorem lw_p22 : lw_okq (⟨"TurnEstimator", "carryOutRowStep", "(I)V"⟩, 11) := ⟨⟨by decide +kernel, by decide +kernel⟩, List.mem_of_getElem? (i := 15) (by decide +kernel), List.mem_of_getElem? (i := 399) (by decide +kernel), List.mem_of_getElem? (i := 400) (by decide +kernel)⟩
theorem lw_p23 : lw_okq (⟨"TurnEstimator", "carryOutColumnStep", "(I)V"⟩, 11) := ⟨⟨by decide +kernel, by decide +kernel⟩, List.mem_of_getElem? (i := 15) (by decide +kernel), List.mem_of_getElem? (i := 403) (by decide +kernel), List.mem_of_getElem? (i := 404) (by decide +kernel)⟩
theorem lw_p24 : lw_okq (⟨"TurnEstimatorModel", "begin", "()V"⟩, 13) := ⟨⟨by decide +kernel, by decide +kernel⟩, List.mem_of_getElem? (i := 474) (by decide +kernel), List.mem_of_getElem? (i := 480) (by decide +kernel), List.mem_of_getElem? (i := 481) (by decide +kernel)⟩
theorem lw_p25 : lw_okq (⟨"TurnEstimatorModel", "layWeights", "()V"⟩, 13) := ⟨⟨by decide +kernel, by decide +kernel⟩, List.mem_of_getElem? (i := 474) (by decide +kernel), List.mem_of_getElem? (i := 484) (by decide +kernel), List.mem_of_getElem? (i := 485) (by decide +kernel)⟩
theorem lw_p26 : lw_okq (⟨"TurnEstimatorModel", "isArm", "(I)Z"⟩, 13) := ⟨⟨by decide +kernel, by decide +kernel⟩, List.mem_of_getElem? (i := 474) (by decide +kernel), List.mem_of_getElem? (i := 547) (by decide +kernel), List.mem_of_getElem? (i := 548) (by decide +kernel)⟩
theorem lw_p27 : lw_okq (⟨"TurnEstimatorModel", "isScalable", "(I)Z"⟩, 13) := ⟨⟨by decide +kernel, by decide +kernel⟩, List.mem_of_getElem? (i := 474) (by decide +kernel), List.mem_of_getElem? (i := 563) (by decide +kernel), List.mem_of_getElem? (i := 564) (by decide +kernel)⟩
theorem lw_p28 : lw_okq (⟨"TurnEstimatorModel", "difference", "()I"⟩, 13) := ⟨⟨by decide +kernel, by decide +kernel⟩, List.mem_of_getElem? (i := 474) (by decide +kernel), List.mem_of_getElem? (i := 574) (by decide +kernel), List.mem_of_getElem? (i := 575) (by decide +kernel)⟩
theorem lw_p29 : lw_okq (⟨"TurnEstimatorModel", "arePossible", "()Z"⟩, 13) := ⟨⟨by decide +kernel, by decide +kernel⟩, List.mem_of_getElem? (i := 474) (by decide +kernel), List.mem_of_getElem? (i := 582) (by decide +kernel), List.mem_of_getElem? (i := 583) (by decide +kernel)⟩
theorem lw_p30 : lw_okq (⟨"TurnEstimatorModel", "crowded", "()I"⟩, 13) := ⟨⟨by decide +kernel, by decide +kernel⟩, List.mem_of_getElem? (i := 474) (by decide +kernel), List.mem_of_getElem? (i := 586) (by decide +kernel), List.mem_of_getElem? (i := 587) (by decide +kernel)⟩
theorem lw_p31 : lw_okq (⟨"TurnEstimatorModel", "excessOf", "(I)I"⟩, 13) := ⟨⟨by decide +kernel, by decide +kernel⟩, List.mem_of_getElem? (i := 474) (by decide +kernel), List.mem_of_getElem? (i := 590) (by decide +kernel), List.mem_of_getElem? (i := 591) (by decide +kernel)⟩
def lw_privs_2 : List (MethodName × Nat) := [(⟨"TurnEstimator", "greatestPossible", "(III)I"⟩, 11), (⟨"TurnEstimator", "mixedTurn", "(JI)J"⟩, 11), (⟨"java/lang/Throwable", "fillInStackTrace", "(I)Ljava/lang/Throwable;"⟩, 6), (⟨"TurnEstimator", "setCount", "([III)I"⟩, 11), (⟨"TurnEstimator", "requireArm", "(I)V"⟩, 11), (⟨"TurnEstimator", "carryOutRound", "()V"⟩, 11), (⟨"TurnEstimator", "carryOutRowStep", "(I)V"⟩, 11), (⟨"TurnEstimator", "carryOutColumnStep", "(I)V"⟩, 11), (⟨"TurnEstimatorModel", "begin", "()V"⟩, 13), (⟨"TurnEstimatorModel", "layWeights", "()V"⟩, 13), (⟨"TurnEstimatorModel", "isArm", "(I)Z"⟩, 13), (⟨"TurnEstimatorModel", "isScalable", "(I)Z"⟩, 13), (⟨"TurnEstimatorModel", "difference", "()I"⟩, 13), (⟨"TurnEstimatorModel", "arePossible", "()Z"⟩, 13), (⟨"TurnEstimatorModel", "crowded", "()I"⟩, 13), (⟨"TurnEstimatorModel", "excessOf", "(I)I"⟩, 13)]
theorem lw_r2 : ∀ q ∈ lw_privs_2, lw_okq q := List.forall_mem_cons.mpr ⟨lw_p16, List.forall_mem_cons.mpr ⟨lw_p17, List.forall_mem_cons.mpr ⟨lw_p18, List.forall_mem_cons.mpr ⟨lw_p19, List.forall_mem_cons.mpr ⟨lw_p20, List.forall_mem_cons.mpr ⟨lw_p21, List.forall_mem_cons.mpr ⟨lw_p22, List.forall_mem_cons.mpr ⟨lw_p23, List.forall_mem_cons.mpr ⟨lw_p24, List.forall_mem_cons.mpr ⟨lw_p25, List.forall_mem_cons.mpr ⟨lw_p26, List.forall_mem_cons.mpr ⟨lw_p27, List.forall_mem_cons.mpr ⟨lw_p28, List.forall_mem_cons.mpr ⟨lw_p29, List.forall_mem_cons.mpr ⟨lw_p30, List.forall_mem_cons.mpr ⟨lw_p31, fun _ h => absurd h List.not_mem_nil⟩⟩⟩⟩⟩⟩⟩⟩⟩⟩⟩⟩⟩⟩⟩⟩
theorem lw_p32 : lw_okq (⟨"TurnEstimatorModel", "oneRound", "()V"⟩, 13) := ⟨⟨by decide +kernel, by decide +kernel⟩, List.mem_of_getElem? (i := 474) (by decide +kernel), List.mem_of_getElem? (i := 606) (by decide +kernel), List.mem_of_getElem? (i := 607) (by decide +kernel)⟩
theorem lw_p33 : lw_okq (⟨"TurnEstimatorModel", "rowStep", "(I)V"⟩, 13) := ⟨⟨by decide +kernel, by decide +kernel⟩, List.mem_of_getElem? (i := 474) (by decide +kernel), List.mem_of_getElem? (i := 610) (by decide +kernel), List.mem_of_getElem? (i := 611) (by decide +kernel)⟩
theorem lw_p34 : lw_okq (⟨"TurnEstimatorModel", "rowSum", "(I)D"⟩, 13) := ⟨⟨by decide +kernel, by decide +kernel⟩, List.mem_of_getElem? (i := 474) (by decide +kernel), List.mem_of_getElem? (i := 614) (by decide +kernel), List.mem_of_getElem? (i := 615) (by decide +kernel)⟩
theorem lw_p35 : lw_okq (⟨"TurnEstimatorModel", "columnStep", "(I)V"⟩, 13) := ⟨⟨by decide +kernel, by decide +kernel⟩, List.mem_of_getElem? (i := 474) (by decide +kernel), List.mem_of_getElem? (i := 618) (by decide +kernel), List.mem_of_getElem? (i := 619) (by decide +kernel)⟩
theorem lw_p36 : lw_okq (⟨"TurnEstimatorModel", "columnSum", "(I)D"⟩, 13) := ⟨⟨by decide +kernel, by decide +kernel⟩, List.mem_of_getElem? (i := 474) (by decide +kernel), List.mem_of_getElem? (i := 622) (by decide +kernel), List.mem_of_getElem? (i := 623) (by decide +kernel)⟩
theorem lw_p37 : lw_okq (⟨"TurnEstimatorModel", "misfitNow", "()D"⟩, 13) := ⟨⟨by decide +kernel, by decide +kernel⟩, List.mem_of_getElem? (i := 474) (by decide +kernel), List.mem_of_getElem? (i := 631) (by decide +kernel), List.mem_of_getElem? (i := 632) (by decide +kernel)⟩
theorem lw_p38 : lw_okq (⟨"TurnEstimatorModel", "areArms", "(II)Z"⟩, 13) := ⟨⟨by decide +kernel, by decide +kernel⟩, List.mem_of_getElem? (i := 474) (by decide +kernel), List.mem_of_getElem? (i := 651) (by decide +kernel), List.mem_of_getElem? (i := 652) (by decide +kernel)⟩
theorem lw_p39 : lw_okq (⟨"TurnEstimatorModel", "busiest", "()I"⟩, 13) := ⟨⟨by decide +kernel, by decide +kernel⟩, List.mem_of_getElem? (i := 474) (by decide +kernel), List.mem_of_getElem? (i := 675) (by decide +kernel), List.mem_of_getElem? (i := 676) (by decide +kernel)⟩
theorem lw_p40 : lw_okq (⟨"TurnEstimatorModel", "roundRow", "(I)V"⟩, 13) := ⟨⟨by decide +kernel, by decide +kernel⟩, List.mem_of_getElem? (i := 474) (by decide +kernel), List.mem_of_getElem? (i := 683) (by decide +kernel), List.mem_of_getElem? (i := 684) (by decide +kernel)⟩
theorem lw_p41 : lw_okq (⟨"TurnEstimatorModel", "nextOf", "(I)I"⟩, 13) := ⟨⟨by decide +kernel, by decide +kernel⟩, List.mem_of_getElem? (i := 474) (by decide +kernel), List.mem_of_getElem? (i := 687) (by decide +kernel), List.mem_of_getElem? (i := 688) (by decide +kernel)⟩
theorem lw_p42 : lw_okq (⟨"TurnEstimatorModel", "wholeMisfit", "()I"⟩, 13) := ⟨⟨by decide +kernel, by decide +kernel⟩, List.mem_of_getElem? (i := 474) (by decide +kernel), List.mem_of_getElem? (i := 696) (by decide +kernel), List.mem_of_getElem? (i := 697) (by decide +kernel)⟩
theorem lw_p43 : lw_okq (⟨"TurnEstimatorModel", "layWhole", "()V"⟩, 13) := ⟨⟨by decide +kernel, by decide +kernel⟩, List.mem_of_getElem? (i := 474) (by decide +kernel), List.mem_of_getElem? (i := 700) (by decide +kernel), List.mem_of_getElem? (i := 701) (by decide +kernel)⟩
theorem lw_p44 : lw_okq (⟨"TurnEstimatorModel", "possibleNow", "(II)I"⟩, 13) := ⟨⟨by decide +kernel, by decide +kernel⟩, List.mem_of_getElem? (i := 474) (by decide +kernel), List.mem_of_getElem? (i := 708) (by decide +kernel), List.mem_of_getElem? (i := 709) (by decide +kernel)⟩
theorem lw_p45 : lw_okq (⟨"TurnEstimatorModel", "layTable", "()V"⟩, 13) := ⟨⟨by decide +kernel, by decide +kernel⟩, List.mem_of_getElem? (i := 474) (by decide +kernel), List.mem_of_getElem? (i := 712) (by decide +kernel), List.mem_of_getElem? (i := 713) (by decide +kernel)⟩
theorem lw_p46 : lw_okq (⟨"TurnEstimatorModel", "layCell", "(II)V"⟩, 13) := ⟨⟨by decide +kernel, by decide +kernel⟩, List.mem_of_getElem? (i := 474) (by decide +kernel), List.mem_of_getElem? (i := 716) (by decide +kernel), List.mem_of_getElem? (i := 717) (by decide +kernel)⟩
theorem lw_p47 : lw_okq (⟨"TurnEstimatorModel", "leftBy", "(II)I"⟩, 13) := ⟨⟨by decide +kernel, by decide +kernel⟩, List.mem_of_getElem? (i := 474) (by decide +kernel), List.mem_of_getElem? (i := 720) (by decide +kernel), List.mem_of_getElem? (i := 721) (by decide +kernel)⟩
def lw_privs_3 : List (MethodName × Nat) := [(⟨"TurnEstimatorModel", "oneRound", "()V"⟩, 13), (⟨"TurnEstimatorModel", "rowStep", "(I)V"⟩, 13), (⟨"TurnEstimatorModel", "rowSum", "(I)D"⟩, 13), (⟨"TurnEstimatorModel", "columnStep", "(I)V"⟩, 13), (⟨"TurnEstimatorModel", "columnSum", "(I)D"⟩, 13), (⟨"TurnEstimatorModel", "misfitNow", "()D"⟩, 13), (⟨"TurnEstimatorModel", "areArms", "(II)Z"⟩, 13), (⟨"TurnEstimatorModel", "busiest", "()I"⟩, 13), (⟨"TurnEstimatorModel", "roundRow", "(I)V"⟩, 13), (⟨"TurnEstimatorModel", "nextOf", "(I)I"⟩, 13), (⟨"TurnEstimatorModel", "wholeMisfit", "()I"⟩, 13), (⟨"TurnEstimatorModel", "layWhole", "()V"⟩, 13), (⟨"TurnEstimatorModel", "possibleNow", "(II)I"⟩, 13), (⟨"TurnEstimatorModel", "layTable", "()V"⟩, 13), (⟨"TurnEstimatorModel", "layCell", "(II)V"⟩, 13), (⟨"TurnEstimatorModel", "leftBy", "(II)I"⟩, 13)]
theorem lw_r3 : ∀ q ∈ lw_privs_3, lw_okq q := List.forall_mem_cons.mpr ⟨lw_p32, List.forall_mem_cons.mpr ⟨lw_p33, List.forall_mem_cons.mpr ⟨lw_p34, List.forall_mem_cons.mpr ⟨lw_p35, List.forall_mem_cons.mpr ⟨lw_p36, List.forall_mem_cons.mpr ⟨lw_p37, List.forall_mem_cons.mpr ⟨lw_p38, List.forall_mem_cons.mpr ⟨lw_p39, List.forall_mem_cons.mpr ⟨lw_p40, List.forall_mem_cons.mpr ⟨lw_p41, List.forall_mem_cons.mpr ⟨lw_p42, List.forall_mem_cons.mpr ⟨lw_p43, List.forall_mem_cons.mpr ⟨lw_p44, List.forall_mem_cons.mpr ⟨lw_p45, List.forall_mem_cons.mpr ⟨lw_p46, List.forall_mem_cons.mpr ⟨lw_p47, fun _ h => absurd h List.not_mem_nil⟩⟩⟩⟩⟩⟩⟩⟩⟩⟩⟩⟩⟩⟩⟩⟩
theorem lw_p48 : lw_okq (⟨"TurnEstimatorModel", "mix", "(J)V"⟩, 13) := ⟨⟨by decide +kernel, by decide +kernel⟩, List.mem_of_getElem? (i := 474) (by decide +kernel), List.mem_of_getElem? (i := 729) (by decide +kernel), List.mem_of_getElem? (i := 730) (by decide +kernel)⟩
theorem lw_p49 : lw_okq (⟨"TurnEstimatorModel", "mixTurns", "()V"⟩, 13) := ⟨⟨by decide +kernel, by decide +kernel⟩, List.mem_of_getElem? (i := 474) (by decide +kernel), List.mem_of_getElem? (i := 734) (by decide +kernel), List.mem_of_getElem? (i := 735) (by decide +kernel)⟩
def lw_privs_4 : List (MethodName × Nat) := [(⟨"TurnEstimatorModel", "mix", "(J)V"⟩, 13), (⟨"TurnEstimatorModel", "mixTurns", "()V"⟩, 13)]
theorem lw_r4 : ∀ q ∈ lw_privs_4, lw_okq q := List.forall_mem_cons.mpr ⟨lw_p48, List.forall_mem_cons.mpr ⟨lw_p49, fun _ h => absurd h List.not_mem_nil⟩⟩
def lw_privs : List (MethodName × Nat) := lw_privs_1 ++ (lw_privs_2 ++ (lw_privs_3 ++ (lw_privs_4)))
def lw_tbl : List Cond := k2_sels lw_privs ++ tables_1
theorem lw_privs_ok : ∀ q ∈ lw_privs, lw_okq q := by
  show ∀ q ∈ lw_privs_1 ++ (lw_privs_2 ++ (lw_privs_3 ++ (lw_privs_4))), lw_okq q
  exact List.forall_mem_append.mpr ⟨lw_r1, List.forall_mem_append.mpr ⟨lw_r2, List.forall_mem_append.mpr ⟨lw_r3, lw_r4⟩⟩⟩
/-- the streams that the claim lets the run draw from -/
abbrev lw_cs : List Choice := [Jvm.Choice.named "NaN.bits"]
theorem lw_bits : nanBits ∈ lw_cs := by first | decide | exact List.mem_cons_self | simp [lw_cs, nanBits]
end
section
/-! ===== BEGIN words of one list among another's, by their places ===== -/
theorem goodIn_r {big : List Cond} (ws : List Cond) (ps : List Nat) (hp : ws = ps.filterMap (fun i => big[i]?)) (h : ws.all goodWord = true) : GoodIn big ws := by
  intro w hw
  have h1 := List.all_eq_true.mp h w hw
  rw [hp] at hw
  obtain ⟨i, -, hi⟩ := List.mem_filterMap.mp hw
  have hm : w ∈ big := by first | exact List.mem_of_getElem? hi | exact List.getElem?_mem hi
  exact ⟨hm, good_of_word h1⟩
theorem goodIn_app {big a b : List Cond} (ha : GoodIn big a) (hb : GoodIn big b) : GoodIn big (a ++ b) := fun w h => (List.mem_append.mp h).elim (ha w) (hb w)
theorem goodIn_ca {big a b : List Cond} {c : Cond} (ha : GoodIn big (c :: a)) (hb : GoodIn big b) : GoodIn big (c :: (a ++ b)) := fun w h => (List.mem_cons.mp h).elim (fun e => ha w (List.mem_cons.mpr (Or.inl e))) (fun h => (List.mem_append.mp h).elim (fun h => ha w (List.mem_cons.mpr (Or.inr h))) (hb w))
theorem goodIn_sub {big ws : List Cond} (hm : ∀ w ∈ ws, w ∈ big) (h : ws.all goodWord = true) : GoodIn big ws := fun w hw => ⟨hm w hw, good_of_word (List.all_eq_true.mp h w hw)⟩
/-! ===== END ===== -/

/-! ===== BEGIN exceptions that leave a method, and their catching by the caller (launches without stack traces) ===== -/
section VXA
/-! The laws vx_back, vx_callV, vx_callS, vx_callSW, vx_throw0, vx_throwS follow proofs of the library, with one case more: JvmDerived/Free/Laws.lean (Back.of_free), Shelf42/LK1.lean (callV, callS), Shelf/KitTraced.lean (throwNew0V, throwNewS). -/
/-- where a method has thrown q: the class by its name, the cell, what was written, the world -/
def vx_T (XC : String → State → State → Prop) (st : State) (q : Addr) (t : State) (mc ms : Nat) (free : Addr → Prop) : Prop :=
  ∃ (E : String) (ce : Cell) (L : List Loc), XC E st t ∧ t.heap[q]? = some ce ∧ ce.vm = .none ∧ st.vm.findClass E = some ce.cls ∧ st.WarmedH t.vm ∧ st.sameButNew ({ t with vm := st.vm } : State) L mc ms ∧ ∀ z ∈ L, free z.base
def vx_Q (Qc : Array Value → State → Outcome → State → Prop) (XC : String → State → State → Prop) (mc ms : Nat) (free : Addr → Prop) : Array Value → State → Outcome → State → Prop := fun a st o t =>
  (Qc a st o t ∧ ∃ L, FrameEnd st o t L mc ms ∧ ∀ q ∈ L, free q.base) ∨ ∃ q, o = .threw q ∧ vx_T XC st q t mc ms free
/-- a callee that returns or throws -/
def vx_Met (l : Launch) (y : MethodName) (ws : List Cond) (rm : Room) (Pc : Array Value → State → Prop) (Qc : Array Value → State → Outcome → State → Prop) (XC : String → State → State → Prop) (mc ms : Nat) (free : Addr → Prop) : Prop :=
  MetFree l y (headSpec ws rm) Pc (fun _ _ _ _ _ => True) (vx_Q Qc XC mc ms free)
def vx_Post (XC : String → State → State → Prop) (mc ms : Nat) (free : Addr → Prop) : Pt → Array Value → Addr → Pt → Prop := fun A a q B =>
  ∃ (g : JFrame) (mk : MethodId) (t : State) (L : List Loc) (E : String) (ce : Cell), B.U.heap = t.heap ∧ B.U.vm = t.vm ∧ XC E (A.U.calling g mk a) t ∧ t.heap[q]? = some ce ∧ ce.vm = .none ∧ A.U.vm.findClass E = some ce.cls ∧ B.locs = A.locs ++ L ∧ (∀ z ∈ L, free z.base) ∧ B.cells = A.cells + mc ∧ B.slots = A.slots + ms
def vx_Back (l : Launch) (R : Room) (p : Program) (e : Env) (below : List Frame) (s : State) (sargs : Array Value) (y : MethodName) (len W9 : Nat)
    (Pre : Pt → Array Value → Prop) (Post : Pt → Array Value → Option Value → Pt → Prop) (PostX : Pt → Array Value → Addr → Pt → Prop) : Prop :=
  ∀ (m : MethodId) (meth : Method) (c : Code) (A : Pt) (g : JFrame) (ig : Instr) (mk : MethodId) (a : Array Value),
    Stand p l e R s m sargs below meth c A.U A.locs A.cells A.slots → g.method = m → g.locals.size = c.maxLocals → decode c.code g.pc = .ok (ig, len) →
    2 * g.monitorRoom + (g.stack.map fun v => v.category).sum ≤ W9 → A.U.methodNamed? y = some mk → Pre A a →
    (∃ (v : Option Value) (B : Pt), Stand p l e R s m sargs below meth c B.U B.locs B.cells B.slots ∧ Post A a v B ∧
      Steps p.tables e below (doInvoke e (A.U.setTop g) [] mk a).1 (B.U.setTop { g with pc := g.pc + len, stack := v.toList ++ g.stack })) ∨
    (∃ (q : Addr) (B : Pt), Stand p l e R s m sargs below meth c B.U B.locs B.cells B.slots ∧ PostX A a q B ∧
      Steps p.tables e below (doInvoke e (A.U.setTop g) [] mk a).1 ((B.U.setTop g).pushFrame (.throwing q)))
section Payer
variable {l : Launch} {R : Room} {p : Program} {e : Env} {below : List Frame} {s : State} {sargs : Array Value} {y : MethodName} {len W9 : Nat}
theorem vx_back {ws : List Cond} {rm : Room} {Pc : Array Value → State → Prop} {Qc : Array Value → State → Outcome → State → Prop} {XC : String → State → State → Prop} {mc ms : Nat} {free : Addr → Prop} {bytes : ByteArray} {maxL : Nat} {ret : Option FieldType}
    (hM : vx_Met l y ws rm Pc Qc XC mc ms free) (hblind : FrameBlind Pc) (hrc : rm.cells = mc) (hrs : rm.slots = ms)
    (hframes : rm.frames + 1 ≤ R.frames) (hlocals : W9 + (maxL + 11) + rm.locals ≤ R.locals)
    (hws : ∀ w ∈ ws, ∀ a' U, s.WarmedH U.vm → w.before a' U = true) (hcode : Cond.code y bytes maxL ret ∈ ws) (hinit : ∀ a' U, s.WarmedH U.vm → (Cond.initialized y.cls).before a' U = true) :
    vx_Back l R p e below s sargs y len W9 (PreOf R mc ms Pc) (PostOf Qc mc ms free) (vx_Post XC mc ms free) := by
  intro m meth c A g ig mk a X hg hsize hdg hW hn hp
  have h1 : (headSpec ws rm).pre.before a A.U = true := atoms_intro fun w hw => hws w hw _ _ X.warmed
  have h2 : (Cond.code y bytes maxL ret).before a A.U = true := hws _ hcode _ _ X.warmed
  have h3 : (Cond.initialized y.cls).before a A.U = true := hinit _ _ X.warmed
  have h4 : A.cells + (headSpec ws rm).room.cells ≤ R.cells := by rw [show (headSpec ws rm).room.cells = mc from hrc]; exact hp.1
  have h5 : A.slots + (headSpec ws rm).room.slots ≤ R.slots := by rw [show (headSpec ws rm).room.slots = ms from hrs]; exact hp.2.1
  have hPc : Pc a (A.U.calling g mk a) := hblind _ _ _ _ hp.2.2
  obtain ⟨U, Ls, c0, s0⟩ := A
  dsimp only [Pt.U, Pt.locs, Pt.cells, Pt.slots] at h1 h2 h3 h4 h5 X hn hPc ⊢
  obtain ⟨methY, cY, hmY, hcY, -, hlY, -, -, -, -⟩ := Cond.code_spec hn h2
  obtain ⟨kY, hkY, -⟩ := className_of_methodNamed hn
  have hinitY : kY.init = .initialized := Cond.initialized_spec (findClass_of_methodNamed hn) hkY h3
  have h : At U g.method c below := by rw [hg]; exact X.here
  have hlocals9 : W9 + (maxL + 11) + (headSpec ws rm).room.locals ≤ R.locals := hlocals
  have happ : (headSpec ws rm).appliesLoose y e.platform (U.calling g mk a) = true :=
    Spec.appliesLoose_calling (g := g) h hdg hn hkY hinitY
      (X.room_calling (g := g) (R' := (headSpec ws rm).room) hsize hmY hcY hframes (by rw [hlY]; omega) h4 h5) h1
  obtain ⟨mid, hmid⟩ := h.above
  have hfr : (U.setTop g).frames = (.java g :: mid) ++ below := by rw [State.frames_setTop' g h.top, hmid]; rfl
  obtain ⟨o, s₂, hsteps, -, hend, hq⟩ := Steps.callFree hM p X.admits X.cas X.clock (acts := []) hfr happ hPc trivial
  have hq' : vx_Q Qc XC mc ms free a (U.calling g mk a) o s₂ := hq
  rw [State.frames_setTop' g h.top] at hend
  obtain ⟨g₀, hg0⟩ := Option.isSome_iff_exists.mp h.top
  obtain ⟨r, hr⟩ := State.topJava?_eq_some.mp hg0
  have hr' : (({ U with heap := s₂.heap, slotsUsed := s₂.slotsUsed } : State).setVm s₂.vm).frames = .java g₀ :: r := hr
  rcases hq' with ⟨hqc, L, hfe, hL⟩ | ⟨q, rfl, E, ce, L, hx, hce, hcv, hcl, hW₂, hsm, hL⟩
  · obtain ⟨⟨v, rfl⟩, hW₂, e2, q2, q3, q4, q5, q6⟩ := id hfe
    have e3 : s₂ = ({ (U.calling g mk a).setFrames s₂.frames with heap := s₂.heap, slotsUsed := s₂.slotsUsed } : State).setVm s₂.vm := by
      have : s₂ = ({ s₂ with vm := (U.calling g mk a).vm } : State).setVm s₂.vm := rfl
      rw [e2] at this
      exact this
    obtain ⟨c₂, i₂, len₂, hc₂, hd₂, hf₂⟩ := hend
    have hW' : U.WarmedH s₂.vm := hW₂
    have hcc : c₂ = c := by
      have h1 : s₂.code? g.method = U.code? g.method := by
        rw [State.code?_eq, State.code?_eq, hW'.alike.method?]
      exact Option.some.inj (hc₂.symm.trans (h1.trans h.code))
    subst hcc
    have hlen : len₂ = len := by rw [hdg] at hd₂; cases hd₂; rfl
    subst hlen
    have hs₂ : s₂ = (({ U with heap := s₂.heap, slotsUsed := s₂.slotsUsed } : State).setVm s₂.vm).setTop { g with pc := g.pc + len₂, stack := v.toList ++ g.stack } := by
      refine e3.trans ?_
      rw [hf₂, State.calling_eq h.top, State.setFrames_setFrames, State.setTop_of_frames _ hr', hr]
      rfl
    have hsame : U.sameButNew ({ U with heap := s₂.heap, slotsUsed := s₂.slotsUsed } : State) L mc ms := by
      refine ⟨?_, q2, q3, q4, q5, q6⟩
      obtain ⟨t, ht, -⟩ := State.frames_cons hr
      show ({ U with heap := s₂.heap, slotsUsed := s₂.slotsUsed } : State) = { U.setFrames U.frames with heap := s₂.heap, slotsUsed := s₂.slotsUsed }
      rw [State.setFrames_self ht]
    subst hg
    refine Or.inl ⟨v, ⟨(({ U with heap := s₂.heap, slotsUsed := s₂.slotsUsed } : State).setVm s₂.vm), Ls ++ L, c0 + mc, s0 + ms⟩,
      ⟨X.admits, X.cas, X.clock, X.frames, X.room, X.hears, X.method, X.code, (X.here.setHeapUsed s₂.heap s₂.slotsUsed).setVm hW'.alike, X.tail, State.WarmedH.trans X.warmed hW', X.limits, X.bytes, X.same.trans (hsame.setVm s.vm)⟩,
      ⟨g, mk, s₂, L, rfl, rfl, hqc, rfl, hL, rfl, rfl⟩, ?_⟩
    show Steps p.tables e below _ ((({ U with heap := s₂.heap, slotsUsed := s₂.slotsUsed } : State).setVm s₂.vm).setTop { g with pc := g.pc + len₂, stack := v.toList ++ g.stack })
    rw [← hs₂]
    exact hsteps
  · obtain ⟨e2, q2, q3, q4, q5, q6⟩ := id hsm
    have e3 : s₂ = ({ (U.calling g mk a).setFrames s₂.frames with heap := s₂.heap, slotsUsed := s₂.slotsUsed } : State).setVm s₂.vm := by
      have : s₂ = ({ s₂ with vm := (U.calling g mk a).vm } : State).setVm s₂.vm := rfl
      rw [e2] at this
      exact this
    have hf₂ : s₂.frames = .throwing q :: .java g :: U.frames.tail := hend
    have hW' : U.WarmedH s₂.vm := hW₂
    have hs₂ : s₂ = ((({ U with heap := s₂.heap, slotsUsed := s₂.slotsUsed } : State).setVm s₂.vm).setTop g).pushFrame (.throwing q) := by
      refine e3.trans ?_
      rw [hf₂, State.calling_eq h.top, State.setFrames_setFrames, State.pushFrame, State.frames_setTop _ hr', State.setTop_of_frames _ hr', State.setFrames_setFrames, hr]
      rfl
    have hsame : U.sameButNew ({ U with heap := s₂.heap, slotsUsed := s₂.slotsUsed } : State) L mc ms := by
      refine ⟨?_, q2, q3, q4, q5, q6⟩
      obtain ⟨t, ht, -⟩ := State.frames_cons hr
      show ({ U with heap := s₂.heap, slotsUsed := s₂.slotsUsed } : State) = { U.setFrames U.frames with heap := s₂.heap, slotsUsed := s₂.slotsUsed }
      rw [State.setFrames_self ht]
    subst hg
    refine Or.inr ⟨q, ⟨(({ U with heap := s₂.heap, slotsUsed := s₂.slotsUsed } : State).setVm s₂.vm), Ls ++ L, c0 + mc, s0 + ms⟩,
      ⟨X.admits, X.cas, X.clock, X.frames, X.room, X.hears, X.method, X.code, (X.here.setHeapUsed s₂.heap s₂.slotsUsed).setVm hW'.alike, X.tail, State.WarmedH.trans X.warmed hW', X.limits, X.bytes, X.same.trans (hsame.setVm s.vm)⟩,
      ⟨g, mk, s₂, L, E, ce, rfl, rfl, hx, hce, hcv, hcl, rfl, hL, rfl, rfl⟩, ?_⟩
    show Steps p.tables e below _ (((({ U with heap := s₂.heap, slotsUsed := s₂.slotsUsed } : State).setVm s₂.vm).setTop g).pushFrame (.throwing q))
    rw [← hs₂]
    exact hsteps
end Payer
section Calls
variable {p : Program} {l : Launch} {e : Env} {R : Room} {s : State} {m : MethodId} {args : Array Value} {below : List Frame} {meth : Method} {c : Code} {T : State} {locs : List Loc} {cells slots : Nat}
theorem vx_callV (X : Stand p l e R s m args below meth c T locs cells slots) (hexec : p.tables.exec = Jvm.exec) {own C : String} {index : Nat} {y : MethodName} {bytes : ByteArray} {maxL : Nat} {ret : Option FieldType}
    (hown : s.vm.findClass own = some m.cls) (hlink : (Cond.methodLink own index y).before args s = true) (hinst : (Cond.instanceMethod y).before args s = true) (hsel : (Cond.selects C y y).before args s = true)
    (hcode : (Cond.code y bytes maxL ret).before args s = true) (hy : y.cls ≠ "java/lang/invoke/MethodHandle" ∧ y.cls ≠ "java/lang/invoke/VarHandle")
    {W9 : Nat} {Pre : Pt → Array Value → Prop} {Post : Pt → Array Value → Option Value → Pt → Prop} {PostX : Pt → Array Value → Addr → Pt → Prop} (hK : vx_Back l R p e below s args y 3 W9 Pre Post PostX)
    {b : Addr} {cellB : Cell} (hcell : T.heap[b]? = some cellB) (hobj : cellB.vm.isStatics = false) (hcls : s.vm.findClass C = some cellB.cls)
    {g : JFrame} (hg : g.method = m) (hsize : g.locals.size = c.maxLocals) {argsL rest : List Value} (hlen : ∀ sig, parseMethodDescriptor y.desc = some sig → argsL.length = sig.parameters.length)
    (hstack : g.stack = argsL.reverse ++ .ref b :: rest) (hW : 2 * g.monitorRoom + (rest.map fun v => v.category).sum ≤ W9) (hdg : decode c.code g.pc = .ok (.invokevirtual index, 3))
    (hpre : ∀ vm₁, s.WarmedH vm₁ → Pre ⟨T.setVm vm₁, locs, cells, slots⟩ (Value.ref b :: argsL).toArray) :
    (∃ (v : Option Value) (vm₁ : Vm) (B : Pt), s.WarmedH vm₁ ∧ Stand p l e R s m args below meth c B.U B.locs B.cells B.slots ∧ Post ⟨T.setVm vm₁, locs, cells, slots⟩ (Value.ref b :: argsL).toArray v B ∧
      ∀ target, Steps p.tables e below (B.U.setTop { g with pc := g.pc + 3, stack := v.toList ++ rest }) target → Steps p.tables e below (T.setTop g) target) ∨
    (∃ (q : Addr) (vm₁ : Vm) (B : Pt), s.WarmedH vm₁ ∧ Stand p l e R s m args below meth c B.U B.locs B.cells B.slots ∧ PostX ⟨T.setVm vm₁, locs, cells, slots⟩ (Value.ref b :: argsL).toArray q B ∧
      Steps p.tables e below (T.setTop g) ((B.U.setTop { g with stack := rest }).pushFrame (.throwing q))) := by
  obtain ⟨mk, methM, hnamed, hmethM, hstM, habM⟩ := Cond.instanceMethod_spec hinst
  obtain ⟨methM', cM, hmethM', -, -, -, -, -, -, hsigM⟩ := Cond.code_spec hnamed hcode
  cases hmethM.symm.trans hmethM'
  obtain ⟨c2, r2, m2, q1, q2, q3, q4, kP, hkP, hkPi⟩ := Cond.selects_spec hsel
  cases hcls.symm.trans q1
  cases (State.methodFound?_of_named hnamed hy).symm.trans q2
  cases hnamed.symm.trans q3
  have hselP : selectMethod e.platform s.vm cellB.cls mk = .method mk := by rw [Launch.admits_selectMethod X.admits]; exact q4
  obtain ⟨vm₁, X₁, hstep₁⟩ := X.invokevirtual hexec hown hlink hnamed hmethM hstM hkP hkPi hy (a := b) (cell := cellB) hcell
    (fun z h => by rw [h] at hobj; cases hobj) hselP hmethM habM hkP hkPi (g := g) hg (argsL := argsL) (rest := rest) (hlen _ hsigM) hstack hdg
  rcases hK m meth c ⟨T.setVm vm₁, locs, cells, slots⟩ { g with stack := rest } (.invokevirtual index) mk (Value.ref b :: argsL).toArray X₁ hg hsize hdg hW (X₁.named hnamed) (hpre vm₁ X₁.warmed) with ⟨v, B, X', hpost, hsteps⟩ | ⟨q, B, X', hpost, hsteps⟩
  · exact Or.inl ⟨v, vm₁, B, X₁.warmed, X', hpost, fun target h => hstep₁ _ fun acts => by rw [doInvoke_state]; exact hsteps.trans h⟩
  · exact Or.inr ⟨q, vm₁, B, X₁.warmed, X', hpost, hstep₁ _ fun acts => by rw [doInvoke_state]; exact hsteps⟩
theorem vx_callS (X : Stand p l e R s m args below meth c T locs cells slots) (hexec : p.tables.exec = Jvm.exec) {own : String} {index : Nat} {y : MethodName} {bytes : ByteArray} {maxL : Nat} {ret : Option FieldType}
    (hown : s.vm.findClass own = some m.cls) (hlink : (Cond.methodLink own index y).before args s = true) (hstat : (Cond.static y).before args s = true) (hinit : (Cond.initialized y.cls).before args s = true)
    (hcode : (Cond.code y bytes maxL ret).before args s = true) (hy : y.cls ≠ "java/lang/invoke/MethodHandle" ∧ y.cls ≠ "java/lang/invoke/VarHandle")
    {W9 : Nat} {Pre : Pt → Array Value → Prop} {Post : Pt → Array Value → Option Value → Pt → Prop} {PostX : Pt → Array Value → Addr → Pt → Prop} (hK : vx_Back l R p e below s args y 3 W9 Pre Post PostX)
    {g : JFrame} (hg : g.method = m) (hsize : g.locals.size = c.maxLocals) {argsL rest : List Value} (hlen : ∀ sig, parseMethodDescriptor y.desc = some sig → argsL.length = sig.parameters.length)
    (hstack : g.stack = argsL.reverse ++ rest) (hW : 2 * g.monitorRoom + (rest.map fun v => v.category).sum ≤ W9) (hdg : decode c.code g.pc = .ok (.invokestatic index, 3))
    (hpre : ∀ vm₁, s.WarmedH vm₁ → Pre ⟨T.setVm vm₁, locs, cells, slots⟩ argsL.toArray) :
    (∃ (v : Option Value) (vm₁ : Vm) (B : Pt), s.WarmedH vm₁ ∧ Stand p l e R s m args below meth c B.U B.locs B.cells B.slots ∧ Post ⟨T.setVm vm₁, locs, cells, slots⟩ argsL.toArray v B ∧
      ∀ target, Steps p.tables e below (B.U.setTop { g with pc := g.pc + 3, stack := v.toList ++ rest }) target → Steps p.tables e below (T.setTop g) target) ∨
    (∃ (q : Addr) (vm₁ : Vm) (B : Pt), s.WarmedH vm₁ ∧ Stand p l e R s m args below meth c B.U B.locs B.cells B.slots ∧ PostX ⟨T.setVm vm₁, locs, cells, slots⟩ argsL.toArray q B ∧
      Steps p.tables e below (T.setTop g) ((B.U.setTop { g with stack := rest }).pushFrame (.throwing q))) := by
  obtain ⟨mk, hnamed⟩ := Cond.code_named hcode
  obtain ⟨methM, cM, hmethM, -, -, -, -, -, -, hsigM⟩ := Cond.code_spec hnamed hcode
  have hstatic : methM.isStatic = true := Cond.static_spec hnamed hmethM hstat
  obtain ⟨kP, hkP, -⟩ := className_of_methodNamed hnamed
  have hinitP : kP.init = .initialized := Cond.initialized_spec (findClass_of_methodNamed hnamed) hkP hinit
  obtain ⟨vm₁, X₁, hstep₁⟩ := X.invokestatic hexec hown hlink hnamed hmethM hstatic hkP hinitP hy (g := g) hg (argsL := argsL) (rest := rest) (hlen _ hsigM) hstack hdg
  rcases hK m meth c ⟨T.setVm vm₁, locs, cells, slots⟩ { g with stack := rest } (.invokestatic index) mk argsL.toArray X₁ hg hsize hdg hW (X₁.named hnamed) (hpre vm₁ X₁.warmed) with ⟨v, B, X', hpost, hsteps⟩ | ⟨q, B, X', hpost, hsteps⟩
  · exact Or.inl ⟨v, vm₁, B, X₁.warmed, X', hpost, fun target h => hstep₁ _ fun acts => by rw [doInvoke_state]; exact hsteps.trans h⟩
  · exact Or.inr ⟨q, vm₁, B, X₁.warmed, X', hpost, hstep₁ _ fun acts => by rw [doInvoke_state]; exact hsteps⟩
end Calls
theorem vx_cls {s : State} {T : State} {vm₁ : Vm} {E : String} {k : ClassId} (hW : s.WarmedH vm₁) (h : (T.setVm vm₁).vm.findClass E = some k) : s.vm.findClass E = some k := by
  have h1 : vm₁.findClass E = some k := h
  rw [hW.alike.findClass] at h1
  exact h1
/-- the method's frame g, with q thrown over it -/
def vx_W (p : Program) (l : Launch) (e : Env) (R : Room) (s : State) (m : MethodId) (args : Array Value) (below : List Frame) (meth : Method) (c : Code) (H : Heap) (locs : List Loc) (cells slots : Nat) (Q : State → Prop) (g : JFrame) (q : Addr) : Prop :=
  ∀ T : State, T.heap = H → Stand p l e R s m args below meth c T locs cells slots → ∃ t, Steps p.tables e below ((T.setTop g).pushFrame (.throwing q)) t ∧ Q t
def vx_Run (p : Program) (l : Launch) (e : Env) (R : Room) (s : State) (m : MethodId) (args : Array Value) (below : List Frame) (meth : Method) (c : Code) (H : Heap) (locs : List Loc) (cells slots mc ms : Nat) (g : JFrame) (rest : List Value) (Qa : State → Outcome → State → Prop) (XC : String → State → State → Prop) (free : Addr → Prop) : Prop :=
  ∀ T : State, T.heap = H → Stand p l e R s m args below meth c T locs cells slots →
    (∃ (v : Option Value) (st₀ t T' : State) (L : List Loc), st₀.heap = H ∧ Stand p l e R s m args below meth c T' (locs ++ L) (cells + mc) (slots + ms) ∧ (∀ q ∈ L, free q.base) ∧ T'.heap = t.heap ∧ T'.vm = t.vm ∧ Qa st₀ (.returned v) t ∧
      Goes p e below T g T' { g with pc := g.pc + 3, stack := v.toList ++ rest }) ∨
    (∃ (q : Addr) (st₀ t T' : State) (L : List Loc) (E : String) (ce : Cell), st₀.heap = H ∧ Stand p l e R s m args below meth c T' (locs ++ L) (cells + mc) (slots + ms) ∧ (∀ z ∈ L, free z.base) ∧ T'.heap = t.heap ∧ T'.vm = t.vm ∧ XC E st₀ t ∧ t.heap[q]? = some ce ∧ ce.vm = .none ∧ s.vm.findClass E = some ce.cls ∧
      Steps p.tables e below (T.setTop g) ((T'.setTop { g with stack := rest }).pushFrame (.throwing q)))
def vx_X {S : Type} (px : S → Prop) (B : String → S → State → Prop) (A : Nat → Prop) : String → State → State → Prop := fun E st t => ∃ u : S, px u ∧ B E u t ∧ va_F A st t
section Runs
variable {p : Program} {l : Launch} {e : Env} {R : Room} {s : State} {m : MethodId} {args : Array Value} {below : List Frame} {meth : Method} {c : Code} {H : Heap} {locs : List Loc} {cells slots : Nat}
variable {y : MethodName} {bytes cc : ByteArray} {maxL nL mc ms n index : Nat} {ret : Option FieldType} {ws : List Cond} {rm : Room} {Pc : Array Value → State → Prop} {Qc : Array Value → State → Outcome → State → Prop} {XC : String → State → State → Prop} {free : Addr → Prop} {Ts : List Cond} {own C : String} {b : Addr} {As rest : List Value} {g : JFrame}
theorem vx_callBack (cb : CallB R s args own index y bytes maxL ret ws rm mc ms n) (hM : vx_Met l y ws rm Pc Qc XC mc ms free) (hbl : FrameBlind Pc) : vx_Back l R p e below s args y 3 8 (PreOf R mc ms Pc) (PostOf Qc mc ms free) (vx_Post XC mc ms free) := by
  obtain ⟨hrc, hrs, hfr, hlo, hws, hcw, -, hini, -⟩ := cb
  exact vx_back (bytes := bytes) (maxL := maxL) (ret := ret) hM hbl hrc hrs hfr hlo hws hcw (fun a' U hW => word_at hW (Or.inl (by first | rfl | simp [Cond.onTables, Cond.keeps, Cond.steady])) hini)
theorem vx_runV (S : CallFix p m c cc nL s args Ts own) (hM : vx_Met l y ws rm Pc Qc XC mc ms free) (cw : CallW R s args own C index y bytes maxL ret ws rm mc ms n) (hp : PreV s H C b Pc As)
    (hg : g.method = m) (hn : As.length = n) (hsize : g.locals.size = nL) (hstack : g.stack = As.reverse ++ .ref b :: rest) (hW : 2 * g.monitorRoom + (rest.map fun v => v.category).sum ≤ 8) (hdg : decode cc g.pc = .ok (.invokevirtual index, 3)) (hf : cells + mc ≤ R.cells ∧ slots + ms ≤ R.slots) :
    vx_Run p l e R s m args below meth c H locs cells slots mc ms g rest (Qc (Value.ref b :: As).toArray) XC free := by
  have hK : vx_Back l R p e below s args y 3 8 (PreOf R mc ms Pc) (PostOf Qc mc ms free) (vx_Post XC mc ms free) := vx_callBack cw.1 hM hp.1
  obtain ⟨⟨-, -, -, -, -, -, hcode, -, hy, hlen, hl⟩, hin, hse⟩ := cw
  obtain ⟨hx, hb, hml, ho, -⟩ := S
  obtain ⟨-, ⟨cellB, hcB, hoB, hclB⟩, hPc⟩ := hp
  intro T hT X
  rcases vx_callV X hx (C := C) (bytes := bytes) (maxL := maxL) (ret := ret) ho hl hin hse hcode hy hK (by rw [hT]; exact hcB) hoB hclB hg (hsize.trans hml.symm) (argsL := As) (rest := rest) (fun sig h => hn.trans (hlen sig h)) hstack hW (by rw [hb]; exact hdg)
    (fun vm₁ hW₁ => ⟨hf.1, hf.2, hPc (T.setVm vm₁) hT hW₁⟩) with ⟨v, vm₁, ⟨U', l2, c2, s2⟩, hW₁, X', ⟨g', mk, t, L, e1, e2, hq, h1, hL, h2, h3⟩, st⟩ | ⟨q, vm₁, ⟨U', l2, c2, s2⟩, hW₁, X', ⟨g', mk, t, L, E, ce, e1, e2, hq, hce, hcv, hcl, h1, hL, h2, h3⟩, st⟩
  · dsimp only [Pt.U, Pt.locs, Pt.cells, Pt.slots] at X' e1 e2 h1 h2 h3 st
    subst h1; subst h2; subst h3
    exact Or.inl ⟨v, (T.setVm vm₁).calling g' mk (Value.ref b :: As).toArray, t, U', L, hT, X', hL, e1, e2, hq, st⟩
  · dsimp only [Pt.U, Pt.locs, Pt.cells, Pt.slots] at X' e1 e2 h1 h2 h3 st hcl
    subst h1; subst h2; subst h3
    exact Or.inr ⟨q, (T.setVm vm₁).calling g' mk (Value.ref b :: As).toArray, t, U', L, E, ce, hT, X', hL, e1, e2, hq, hce, hcv, vx_cls hW₁ hcl, st⟩
theorem vx_runS (S : CallFix p m c cc nL s args Ts own) (hM : vx_Met l y ws rm Pc Qc XC mc ms free) (cw : CallB R s args own index y bytes maxL ret ws rm mc ms n ∧ (Cond.static y).before args s = true) (hp : PreS s H Pc As)
    (hg : g.method = m) (hn : As.length = n) (hsize : g.locals.size = nL) (hstack : g.stack = As.reverse ++ rest) (hW : 2 * g.monitorRoom + (rest.map fun v => v.category).sum ≤ 8) (hdg : decode cc g.pc = .ok (.invokestatic index, 3)) (hf : cells + mc ≤ R.cells ∧ slots + ms ≤ R.slots) :
    vx_Run p l e R s m args below meth c H locs cells slots mc ms g rest (Qc As.toArray) XC free := by
  have hK : vx_Back l R p e below s args y 3 8 (PreOf R mc ms Pc) (PostOf Qc mc ms free) (vx_Post XC mc ms free) := vx_callBack cw.1 hM hp.1
  obtain ⟨⟨-, -, -, -, -, -, hcode, hini, hy, hlen, hl⟩, hstt⟩ := cw
  obtain ⟨hx, hb, hml, ho, -⟩ := S
  intro T hT X
  rcases vx_callS X hx (bytes := bytes) (maxL := maxL) (ret := ret) ho hl hstt hini hcode hy hK hg (hsize.trans hml.symm) (argsL := As) (rest := rest) (fun sig h => hn.trans (hlen sig h)) hstack hW (by rw [hb]; exact hdg)
    (fun vm₁ hW₁ => ⟨hf.1, hf.2, hp.2 (T.setVm vm₁) hT hW₁⟩) with ⟨v, vm₁, ⟨U', l2, c2, s2⟩, hW₁, X', ⟨g', mk, t, L, e1, e2, hq, h1, hL, h2, h3⟩, st⟩ | ⟨q, vm₁, ⟨U', l2, c2, s2⟩, hW₁, X', ⟨g', mk, t, L, E, ce, e1, e2, hq, hce, hcv, hcl, h1, hL, h2, h3⟩, st⟩
  · dsimp only [Pt.U, Pt.locs, Pt.cells, Pt.slots] at X' e1 e2 h1 h2 h3 st
    subst h1; subst h2; subst h3
    exact Or.inl ⟨v, (T.setVm vm₁).calling g' mk As.toArray, t, U', L, hT, X', hL, e1, e2, hq, st⟩
  · dsimp only [Pt.U, Pt.locs, Pt.cells, Pt.slots] at X' e1 e2 h1 h2 h3 st hcl
    subst h1; subst h2; subst h3
    exact Or.inr ⟨q, (T.setVm vm₁).calling g' mk As.toArray, t, U', L, E, ce, hT, X', hL, e1, e2, hq, hce, hcv, vx_cls hW₁ hcl, st⟩
end Runs
section Rows
variable {p : Program} {l : Launch} {e : Env} {R : Room} {s : State} {m : MethodId} {args : Array Value} {below : List Frame} {meth : Method} {c : Code} {H : Heap} {locs : List Loc} {cells slots : Nat} {Q : State → Prop}
variable {mc ms : Nat} {free : Addr → Prop} {A0 A1 : Nat → Prop} {H0 : Heap} {a : Array Value} {pc : Nat} {ls : Array Slot} {st0 rest : List Value}
theorem vx_keep {st₀ t T' : State} {L : List Loc} (h0 : st₀.heap = H) (e1 : T'.heap = t.heap) (hS : va_S A0 H0 H locs) (hA : ∀ q, q < H.size → A1 q → A0 q) (hf : ∀ q, free q → A0 q) (hL : ∀ q ∈ L, free q.base) (hF : va_F A1 st₀ t) :
    H.size ≤ T'.heap.size ∧ (∀ q : Nat, q < H.size → ¬ A1 q → T'.heap[q]? = H[q]?) ∧ va_S A0 H0 T'.heap (locs ++ L) := by
  obtain ⟨hz, hk⟩ := hF
  rw [h0] at hz hk
  exact ⟨by rw [e1]; exact hz, fun q h1 h2 => by rw [e1]; exact hk q h1 h2,
    ⟨Nat.le_trans hS.1 (by rw [e1]; exact hz), fun q h1 h2 => by rw [e1, hk q (Nat.lt_of_lt_of_le h1 hS.1) (fun z => h2 (hA q (Nat.lt_of_lt_of_le h1 hS.1) z))]; exact hS.2.1 q h1 h2, fun q hq => by
      rcases List.mem_append.mp hq with h | h
      · exact hS.2.2 q h
      · exact hf _ (hL q h)⟩⟩
theorem vx_calli {S SX : Type} {post : Int32 → S → Prop} {px : SX → Prop} {B : S → State → Prop} {BX : String → SX → State → Prop} {AX : Nat → Prop} (hr : vx_Run p l e R s m args below meth c H locs cells slots mc ms (F0 m pc ls st0) rest (va_Qi post B A1 a) (vx_X px BX AX) free) (hS : va_S A0 H0 H locs) (hA : ∀ q, q < H.size → A1 q → A0 q) (hf : ∀ q, free q → A0 q) (hAX : ∀ q, q < H.size → AX q → A0 q)
    (kx : ∀ (E : String) (ce : Cell) (q9 : Addr) (u : SX) (t : State) (H1 : Heap) (locs1 : List Loc), t.heap = H1 → s.vm.Alike t.vm → px u → BX E u t → H.size ≤ H1.size → (∀ q : Nat, q < H.size → ¬ AX q → H1[q]? = H[q]?) → va_S A0 H0 H1 locs1 → H1[q9]? = some ce → ce.vm = .none → s.vm.findClass E = some ce.cls → vx_W p l e R s m args below meth c H1 locs1 (cells + mc) (slots + ms) Q (F0 m pc ls rest) q9)
    (kk : ∀ (r : Int32) (u : S) (t : State) (H1 : Heap) (locs1 : List Loc), t.heap = H1 → s.vm.Alike t.vm → post r u → B u t → H.size ≤ H1.size → (∀ q : Nat, q < H.size → ¬ A1 q → H1[q]? = H[q]?) → va_S A0 H0 H1 locs1 → W p l e R s m args below meth c H1 locs1 (cells + mc) (slots + ms) Q (F0 m (pc + 3) ls (.int r :: rest))) : W p l e R s m args below meth c H locs cells slots Q (F0 m pc ls st0) := by
  intro T hT X
  rcases hr T hT X with ⟨v, st₀, t, T', L, h0, X', hL, e1, e2, ⟨⟨r, u, hv, hp, hb⟩, hF⟩, st⟩ | ⟨q, st₀, t, T', L, E, ce, h0, X', hL, e1, e2, ⟨u, hp, hb, hF⟩, hce, hcv, hcl, st⟩
  · cases hv
    obtain ⟨k1, k2, k3⟩ := vx_keep h0 e1 hS hA hf hL hF
    obtain ⟨t2, a1, b1⟩ := kk r u t T'.heap (locs ++ L) e1.symm (by rw [← e2]; exact X'.warmed.alike) hp hb k1 k2 k3 T' rfl X'
    exact ⟨t2, st t2 a1, b1⟩
  · obtain ⟨k1, k2, k3⟩ := vx_keep h0 e1 hS hAX hf hL hF
    obtain ⟨t2, a1, b1⟩ := kx E ce q u t T'.heap (locs ++ L) e1.symm (by rw [← e2]; exact X'.warmed.alike) hp hb k1 k2 k3 (by rw [e1]; exact hce) hcv hcl T' rfl X'
    exact ⟨t2, st.trans a1, b1⟩
theorem vx_calll {S SX : Type} {post : Int64 → S → Prop} {px : SX → Prop} {B : S → State → Prop} {BX : String → SX → State → Prop} {AX : Nat → Prop} (hr : vx_Run p l e R s m args below meth c H locs cells slots mc ms (F0 m pc ls st0) rest (va_Ql post B A1 a) (vx_X px BX AX) free) (hS : va_S A0 H0 H locs) (hA : ∀ q, q < H.size → A1 q → A0 q) (hf : ∀ q, free q → A0 q) (hAX : ∀ q, q < H.size → AX q → A0 q)
    (kx : ∀ (E : String) (ce : Cell) (q9 : Addr) (u : SX) (t : State) (H1 : Heap) (locs1 : List Loc), t.heap = H1 → s.vm.Alike t.vm → px u → BX E u t → H.size ≤ H1.size → (∀ q : Nat, q < H.size → ¬ AX q → H1[q]? = H[q]?) → va_S A0 H0 H1 locs1 → H1[q9]? = some ce → ce.vm = .none → s.vm.findClass E = some ce.cls → vx_W p l e R s m args below meth c H1 locs1 (cells + mc) (slots + ms) Q (F0 m pc ls rest) q9)
    (kk : ∀ (r : Int64) (u : S) (t : State) (H1 : Heap) (locs1 : List Loc), t.heap = H1 → s.vm.Alike t.vm → post r u → B u t → H.size ≤ H1.size → (∀ q : Nat, q < H.size → ¬ A1 q → H1[q]? = H[q]?) → va_S A0 H0 H1 locs1 → W p l e R s m args below meth c H1 locs1 (cells + mc) (slots + ms) Q (F0 m (pc + 3) ls (.long r :: rest))) : W p l e R s m args below meth c H locs cells slots Q (F0 m pc ls st0) := by
  intro T hT X
  rcases hr T hT X with ⟨v, st₀, t, T', L, h0, X', hL, e1, e2, ⟨⟨r, u, hv, hp, hb⟩, hF⟩, st⟩ | ⟨q, st₀, t, T', L, E, ce, h0, X', hL, e1, e2, ⟨u, hp, hb, hF⟩, hce, hcv, hcl, st⟩
  · cases hv
    obtain ⟨k1, k2, k3⟩ := vx_keep h0 e1 hS hA hf hL hF
    obtain ⟨t2, a1, b1⟩ := kk r u t T'.heap (locs ++ L) e1.symm (by rw [← e2]; exact X'.warmed.alike) hp hb k1 k2 k3 T' rfl X'
    exact ⟨t2, st t2 a1, b1⟩
  · obtain ⟨k1, k2, k3⟩ := vx_keep h0 e1 hS hAX hf hL hF
    obtain ⟨t2, a1, b1⟩ := kx E ce q u t T'.heap (locs ++ L) e1.symm (by rw [← e2]; exact X'.warmed.alike) hp hb k1 k2 k3 (by rw [e1]; exact hce) hcv hcl T' rfl X'
    exact ⟨t2, st.trans a1, b1⟩
theorem vx_callf {S SX : Type} {post : UInt32 → S → Prop} {px : SX → Prop} {B : S → State → Prop} {BX : String → SX → State → Prop} {AX : Nat → Prop} (hr : vx_Run p l e R s m args below meth c H locs cells slots mc ms (F0 m pc ls st0) rest (va_Qf post B A1 a) (vx_X px BX AX) free) (hS : va_S A0 H0 H locs) (hA : ∀ q, q < H.size → A1 q → A0 q) (hf : ∀ q, free q → A0 q) (hAX : ∀ q, q < H.size → AX q → A0 q)
    (kx : ∀ (E : String) (ce : Cell) (q9 : Addr) (u : SX) (t : State) (H1 : Heap) (locs1 : List Loc), t.heap = H1 → s.vm.Alike t.vm → px u → BX E u t → H.size ≤ H1.size → (∀ q : Nat, q < H.size → ¬ AX q → H1[q]? = H[q]?) → va_S A0 H0 H1 locs1 → H1[q9]? = some ce → ce.vm = .none → s.vm.findClass E = some ce.cls → vx_W p l e R s m args below meth c H1 locs1 (cells + mc) (slots + ms) Q (F0 m pc ls rest) q9)
    (kk : ∀ (r : UInt32) (u : S) (t : State) (H1 : Heap) (locs1 : List Loc), t.heap = H1 → s.vm.Alike t.vm → post r u → B u t → H.size ≤ H1.size → (∀ q : Nat, q < H.size → ¬ A1 q → H1[q]? = H[q]?) → va_S A0 H0 H1 locs1 → W p l e R s m args below meth c H1 locs1 (cells + mc) (slots + ms) Q (F0 m (pc + 3) ls (.float r :: rest))) : W p l e R s m args below meth c H locs cells slots Q (F0 m pc ls st0) := by
  intro T hT X
  rcases hr T hT X with ⟨v, st₀, t, T', L, h0, X', hL, e1, e2, ⟨⟨r, u, hv, hp, hb⟩, hF⟩, st⟩ | ⟨q, st₀, t, T', L, E, ce, h0, X', hL, e1, e2, ⟨u, hp, hb, hF⟩, hce, hcv, hcl, st⟩
  · cases hv
    obtain ⟨k1, k2, k3⟩ := vx_keep h0 e1 hS hA hf hL hF
    obtain ⟨t2, a1, b1⟩ := kk r u t T'.heap (locs ++ L) e1.symm (by rw [← e2]; exact X'.warmed.alike) hp hb k1 k2 k3 T' rfl X'
    exact ⟨t2, st t2 a1, b1⟩
  · obtain ⟨k1, k2, k3⟩ := vx_keep h0 e1 hS hAX hf hL hF
    obtain ⟨t2, a1, b1⟩ := kx E ce q u t T'.heap (locs ++ L) e1.symm (by rw [← e2]; exact X'.warmed.alike) hp hb k1 k2 k3 (by rw [e1]; exact hce) hcv hcl T' rfl X'
    exact ⟨t2, st.trans a1, b1⟩
theorem vx_calld {S SX : Type} {post : UInt64 → S → Prop} {px : SX → Prop} {B : S → State → Prop} {BX : String → SX → State → Prop} {AX : Nat → Prop} (hr : vx_Run p l e R s m args below meth c H locs cells slots mc ms (F0 m pc ls st0) rest (va_Qd post B A1 a) (vx_X px BX AX) free) (hS : va_S A0 H0 H locs) (hA : ∀ q, q < H.size → A1 q → A0 q) (hf : ∀ q, free q → A0 q) (hAX : ∀ q, q < H.size → AX q → A0 q)
    (kx : ∀ (E : String) (ce : Cell) (q9 : Addr) (u : SX) (t : State) (H1 : Heap) (locs1 : List Loc), t.heap = H1 → s.vm.Alike t.vm → px u → BX E u t → H.size ≤ H1.size → (∀ q : Nat, q < H.size → ¬ AX q → H1[q]? = H[q]?) → va_S A0 H0 H1 locs1 → H1[q9]? = some ce → ce.vm = .none → s.vm.findClass E = some ce.cls → vx_W p l e R s m args below meth c H1 locs1 (cells + mc) (slots + ms) Q (F0 m pc ls rest) q9)
    (kk : ∀ (r : UInt64) (u : S) (t : State) (H1 : Heap) (locs1 : List Loc), t.heap = H1 → s.vm.Alike t.vm → post r u → B u t → H.size ≤ H1.size → (∀ q : Nat, q < H.size → ¬ A1 q → H1[q]? = H[q]?) → va_S A0 H0 H1 locs1 → W p l e R s m args below meth c H1 locs1 (cells + mc) (slots + ms) Q (F0 m (pc + 3) ls (.double r :: rest))) : W p l e R s m args below meth c H locs cells slots Q (F0 m pc ls st0) := by
  intro T hT X
  rcases hr T hT X with ⟨v, st₀, t, T', L, h0, X', hL, e1, e2, ⟨⟨r, u, hv, hp, hb⟩, hF⟩, st⟩ | ⟨q, st₀, t, T', L, E, ce, h0, X', hL, e1, e2, ⟨u, hp, hb, hF⟩, hce, hcv, hcl, st⟩
  · cases hv
    obtain ⟨k1, k2, k3⟩ := vx_keep h0 e1 hS hA hf hL hF
    obtain ⟨t2, a1, b1⟩ := kk r u t T'.heap (locs ++ L) e1.symm (by rw [← e2]; exact X'.warmed.alike) hp hb k1 k2 k3 T' rfl X'
    exact ⟨t2, st t2 a1, b1⟩
  · obtain ⟨k1, k2, k3⟩ := vx_keep h0 e1 hS hAX hf hL hF
    obtain ⟨t2, a1, b1⟩ := kx E ce q u t T'.heap (locs ++ L) e1.symm (by rw [← e2]; exact X'.warmed.alike) hp hb k1 k2 k3 (by rw [e1]; exact hce) hcv hcl T' rfl X'
    exact ⟨t2, st.trans a1, b1⟩
theorem vx_callv {S SX : Type} {post : S → Prop} {px : SX → Prop} {B : S → State → Prop} {BX : String → SX → State → Prop} {AX : Nat → Prop} (hr : vx_Run p l e R s m args below meth c H locs cells slots mc ms (F0 m pc ls st0) rest (va_Qv post B A1 a) (vx_X px BX AX) free) (hS : va_S A0 H0 H locs) (hA : ∀ q, q < H.size → A1 q → A0 q) (hf : ∀ q, free q → A0 q) (hAX : ∀ q, q < H.size → AX q → A0 q)
    (kx : ∀ (E : String) (ce : Cell) (q9 : Addr) (u : SX) (t : State) (H1 : Heap) (locs1 : List Loc), t.heap = H1 → s.vm.Alike t.vm → px u → BX E u t → H.size ≤ H1.size → (∀ q : Nat, q < H.size → ¬ AX q → H1[q]? = H[q]?) → va_S A0 H0 H1 locs1 → H1[q9]? = some ce → ce.vm = .none → s.vm.findClass E = some ce.cls → vx_W p l e R s m args below meth c H1 locs1 (cells + mc) (slots + ms) Q (F0 m pc ls rest) q9)
    (kk : ∀ (u : S) (t : State) (H1 : Heap) (locs1 : List Loc), t.heap = H1 → s.vm.Alike t.vm → post u → B u t → H.size ≤ H1.size → (∀ q : Nat, q < H.size → ¬ A1 q → H1[q]? = H[q]?) → va_S A0 H0 H1 locs1 → W p l e R s m args below meth c H1 locs1 (cells + mc) (slots + ms) Q (F0 m (pc + 3) ls (rest))) : W p l e R s m args below meth c H locs cells slots Q (F0 m pc ls st0) := by
  intro T hT X
  rcases hr T hT X with ⟨v, st₀, t, T', L, h0, X', hL, e1, e2, ⟨⟨u, hv, hp, hb⟩, hF⟩, st⟩ | ⟨q, st₀, t, T', L, E, ce, h0, X', hL, e1, e2, ⟨u, hp, hb, hF⟩, hce, hcv, hcl, st⟩
  · cases hv
    obtain ⟨k1, k2, k3⟩ := vx_keep h0 e1 hS hA hf hL hF
    obtain ⟨t2, a1, b1⟩ := kk u t T'.heap (locs ++ L) e1.symm (by rw [← e2]; exact X'.warmed.alike) hp hb k1 k2 k3 T' rfl X'
    exact ⟨t2, st t2 a1, b1⟩
  · obtain ⟨k1, k2, k3⟩ := vx_keep h0 e1 hS hAX hf hL hF
    obtain ⟨t2, a1, b1⟩ := kx E ce q u t T'.heap (locs ++ L) e1.symm (by rw [← e2]; exact X'.warmed.alike) hp hb k1 k2 k3 (by rw [e1]; exact hce) hcv hcl T' rfl X'
    exact ⟨t2, st.trans a1, b1⟩
/-- caught by the row x of this method's table; the rows ahead don't take it -/
theorem vx_catch {own name : String} {E : String} {ce : Cell} {q : Addr} (hown : s.vm.findClass own = some m.cls) (pre : List ExceptionTableEntry) (x : ExceptionTableEntry) (suf : List ExceptionTableEntry) (hsplit : c.exceptionTable.toList = pre ++ x :: suf)
    (hpass : ∀ z ∈ pre, covers z pc = false ∨ (z.catchType ≠ 0 ∧ ∃ nm : String, (Cond.classLink own z.catchType nm).before args s = true ∧ va_Nc E nm s)) (hx : covers x pc = true) (h0 : x.catchType ≠ 0)
    (hlink : (Cond.classLink own x.catchType name).before args s = true) (hcast : (Cond.castable E name).before args s = true) (hcell : H[q]? = some ce) (hv : ce.vm = .none) (hcl : s.vm.findClass E = some ce.cls)
    (kk : W p l e R s m args below meth c H locs cells slots Q (F0 m x.handlerPc ls [.ref q])) : vx_W p l e R s m args below meth c H locs cells slots Q (F0 m pc ls rest) q := by
  intro T hT X
  have hpl : e.platform.magicAccessors = ({} : Platform).magicAccessors := by rw [X.admits.platform]
  obtain ⟨c3, c4, hc3, hc4, hasg⟩ := Cond.castable_spec hcast
  cases Option.some.inj (hc3.symm.trans hcl)
  obtain ⟨c5, hc5, hcl5⟩ := Cond.classLink_spec hown hlink e.platform hpl
  cases Option.some.inj (hc4.symm.trans hc5)
  obtain ⟨vm', X', st⟩ := X.thenCaughtThrough q (g := F0 m pc ls rest) rfl (Steps.refl _) (by rw [hT]; exact hcell) (by rw [hv]; rfl) (by obtain ⟨k9, h9, -⟩ := Vm.findClass_spec hcl; exact ⟨k9, h9⟩) pre x suf hsplit
    (fun z hz => by
      rcases hpass z hz with h | ⟨hz0, nm, hl1, hn1⟩
      · exact Or.inl h
      · obtain ⟨c6, hc6, hcl6⟩ := Cond.classLink_spec hown hl1 e.platform hpl
        obtain ⟨a8, b8, h1, h2, h3⟩ := hn1
        cases Option.some.inj (h1.symm.trans hcl)
        cases Option.some.inj (h2.symm.trans hc6)
        exact Or.inr ⟨hz0, _, hcl6, h3⟩) hx (Or.inr ⟨h0, c4, hcl5, hasg⟩)
  obtain ⟨t, a1, b1⟩ := kk (T.setVm vm') hT X'
  exact ⟨t, st.trans a1, b1⟩
end Rows
section Ends
variable {p : Program} {l : Launch} {e : Env} {R : Room} {s : State} {m : MethodId} {args : Array Value} {below : List Frame} {meth : Method} {c : Code} {H : Heap} {locs : List Loc} {cells slots : Nat} {Q : State → Prop}
variable {mc ms : Nat} {free : Addr → Prop} {A0 A1 : Nat → Prop} {H0 : Heap} {a : Array Value} {ls : Array Slot} {st0 rest : List Value}
variable {Qc : Array Value → State → Outcome → State → Prop} {XC : String → State → State → Prop}
/-- what a body that may throw owes at its end -/
def vx_MQ (below : List Frame) (Qc : Array Value → State → Outcome → State → Prop) (XC : String → State → State → Prop) (a : Array Value) (s : State) (mc ms : Nat) (free : Addr → Prop) : State → Prop := fun t =>
  ∃ o, t.status = .running ∧ Ended t below o ∧ vx_Q Qc XC mc ms free a s o t
theorem vx_ret {g : JFrame} {mc ms : Nat} (k : W p l e R s m args below meth c H locs cells slots (MQ below Qc args s mc ms free) g) : W p l e R s m args below meth c H locs cells slots (vx_MQ below Qc XC args s mc ms free) g := by
  intro T hT X
  obtain ⟨t, a1, o, b1, b2, b3, b4⟩ := k T hT X
  exact ⟨t, a1, o, b1, b2, Or.inl ⟨b3, b4⟩⟩
/-- not caught here: it goes on to the caller -/
theorem vx_widen {g : JFrame} {q : Addr} {k n : Nat} (h1 : cells ≤ k) (h2 : slots ≤ n) (kk : vx_W p l e R s m args below meth c H locs k n Q g q) : vx_W p l e R s m args below meth c H locs cells slots Q g q := fun T hT X => kk T hT (stand_widen X h1 h2)
theorem vx_out {pc : Nat} {E : String} {ce : Cell} {q : Addr} {mc ms : Nat} (hout : ∀ x ∈ c.exceptionTable.toList, covers x pc = false) (hlocks : meth.locks = false) (hcell : H[q]? = some ce) (hv : ce.vm = .none) (hcl : s.vm.findClass E = some ce.cls)
    (hx : ∀ t : State, t.heap = H → s.vm.Alike t.vm → XC E s t) (hf : ∀ z ∈ locs, free z.base) (hc : cells ≤ mc) (hs : slots ≤ ms) :
    vx_W p l e R s m args below meth c H locs cells slots (vx_MQ below Qc XC args s mc ms free) (F0 m pc ls rest) q := by
  intro T hT X
  obtain ⟨st1, hrun, hend, hW, hsm⟩ := X.leaveThrown q (g := F0 m pc ls rest) rfl rfl rfl hout hlocks
  have hcell9 : (T.setFrames (.throwing q :: below)).heap[q]? = some ce := by
    show T.heap[q]? = some ce
    rw [hT]; exact hcell
  exact ⟨_, st1, .threw q, hrun, hend, Or.inr ⟨q, rfl, E, ce, locs, hx _ hT hW.alike, hcell9, hv, hcl, hW, hsm.mono hc hs, hf⟩⟩
theorem vx_frame {U : State} {k n : Nat} (h : s.sameButNew ({ U with vm := s.vm } : State) locs k n) : s.heap.size ≤ U.heap.size ∧ ∀ q : Nat, q < s.heap.size → (∀ z ∈ locs, z.base ≠ q) → U.heap[q]? = s.heap[q]? := by
  obtain ⟨-, h2, -, -, -, h6⟩ := h
  refine ⟨h2, fun q hq hz => ?_⟩
  obtain ⟨c9, e1, e2, e3, e4⟩ := h6 q _ (Array.getElem?_eq_getElem hq)
  have hs : c9.slots = (s.heap[q]).slots := Array.ext_getElem? fun i => e4 i fun hm => hz _ hm rfl
  have h9 : c9 = s.heap[q] := by
    rw [hs] at e2
    exact e2
  have e5 : U.heap[q]? = some c9 := e1
  rw [e5, h9, Array.getElem?_eq_getElem hq]
/-- the words of a throw but the four that speak of the heap -/
def vx_no (w : Cond) : Bool := decide (w ≠ .isRef (.static Bundle.tN "UNASSIGNED_STACK" Bundle.steD)) && decide (w ≠ .isRef (.static Bundle.tN "SUPPRESSED_SENTINEL" Bundle.listD)) && decide (w ≠ .laysStatic Bundle.tN "UNASSIGNED_STACK" Bundle.steD) && decide (w ≠ .laysStatic Bundle.tN "SUPPRESSED_SENTINEL" Bundle.listD)
def vx_at0 (own : String) (ic : Nat) (X : String) (names : List String) : List Cond := (Bundle.ownAtoms0 own ic X names).filter vx_no
def vx_atS (own : String) (ic : Nat) (X : String) (names : List String) : List Cond := (Bundle.ownAtoms own ic X names).filter vx_no
/-- a word that the tables alone decide, or a good one -/
def vx_ot (w : Cond) : Bool := w.onTables || goodWord w
theorem vx_ot_at {args a' : Array Value} {s U : State} {w : Cond} (hW : s.WarmedH U.vm) (hvm : s.vm = U.vm) (hg : vx_ot w = true) (h : w.before args s = true) : w.before a' U = true := by
  simp only [vx_ot, Bool.or_eq_true] at hg
  rcases hg with hg | hg
  · exact va_tabs hg hvm h
  · exact word_at hW (good_of_word hg) h
/-- a list's words: the good ones out of the method's own list, the others by premises of their own -/
theorem vx_hat {args : Array Value} {s : State} {L B : List Cond} (h1 : ∀ w ∈ L.filter goodWord, w.before args s = true) (h2 : ∀ w ∈ L.filter (fun w => !goodWord w), w ∈ B) (h3 : ∀ w ∈ B, w.before args s = true) : ∀ w ∈ L, w.before args s = true := by
  intro w hw
  by_cases g : goodWord w = true
  · exact h1 w (List.mem_filter.mpr ⟨hw, g⟩)
  · refine h3 w (h2 w (List.mem_filter.mpr ⟨hw, ?_⟩))
    show (!goodWord w) = true
    cases hgw : goodWord w
    · rfl
    · exact absurd hgw g
theorem vx_c {args : Array Value} {s : State} {w : Cond} {B : List Cond} (h : w.before args s = true) (t : ∀ w ∈ B, w.before args s = true) : ∀ w' ∈ w :: B, w'.before args s = true := fun w' h' => (List.mem_cons.mp h').elim (fun e => by rw [e]; exact h) (t w')
theorem vx_n {args : Array Value} {s : State} : ∀ w ∈ ([] : List Cond), w.before args s = true := fun _ h => nomatch h
theorem vx_own {args : Array Value} {s : State} {L : List Cond} (h1 : ∀ w ∈ L.filter vx_no, w.before args s = true)
    (hU : (Cond.isRef (.static Bundle.tN "UNASSIGNED_STACK" Bundle.steD)).before args s = true) (hN : (Cond.isRef (.static Bundle.tN "SUPPRESSED_SENTINEL" Bundle.listD)).before args s = true)
    (lU : (Cond.laysStatic Bundle.tN "UNASSIGNED_STACK" Bundle.steD).before args s = true) (lN : (Cond.laysStatic Bundle.tN "SUPPRESSED_SENTINEL" Bundle.listD).before args s = true) : ∀ w ∈ L, w.before args s = true := by
  intro w hw
  by_cases e1 : w = .isRef (.static Bundle.tN "UNASSIGNED_STACK" Bundle.steD)
  · rw [e1]; exact hU
  · by_cases e2 : w = .isRef (.static Bundle.tN "SUPPRESSED_SENTINEL" Bundle.listD)
    · rw [e2]; exact hN
    · by_cases e3 : w = .laysStatic Bundle.tN "UNASSIGNED_STACK" Bundle.steD
      · rw [e3]; exact lU
      · by_cases e4 : w = .laysStatic Bundle.tN "SUPPRESSED_SENTINEL" Bundle.listD
        · rw [e4]; exact lN
        · exact h1 w (List.mem_filter.mpr ⟨hw, by unfold vx_no; rw [decide_eq_true e1, decide_eq_true e2, decide_eq_true e3, decide_eq_true e4]; rfl⟩)
/-- where a static field lies, its class's statics cell in H -/
def vx_L (C n d : String) (A : Nat → Prop) (U : State) (H : Heap) : Prop := ∃ (c : ClassId) (k : Class) (i : Nat) (f : Field) (a : Nat) (cell : Cell), U.vm.findClass C = some c ∧ U.fieldFound? C n d = some (c, k, i, f) ∧ f.isStatic = true ∧ k.statics = some a ∧ H[a]? = some cell ∧ cell.vm.isStatics = true ∧ cell.cls = c ∧ f.slot < cell.slots.size ∧ k.staticTypes[f.slot]? = some f.type ∧ ¬ A a
theorem vx_L.moved {C n d : String} {A : Nat → Prop} {u U : State} {H : Heap} (hvm : u.vm.Alike U.vm) (h : vx_L C n d A u H) : vx_L C n d A U H := by
  obtain ⟨c, k, i, f, a, cell, h1, h2, h3, h4, h5, h6, h7, h8, h9, h10⟩ := h
  obtain ⟨k', hi', he⟩ := State.fieldFound?_setVm hvm h2
  exact ⟨c, k', i, f, a, cell, by rw [hvm.findClass]; exact h1, hi', h3, by rw [he]; exact h4, h5, h6, h7, h8, by rw [he]; exact h9, h10⟩
theorem vx_L.kept {C n d : String} {A : Nat → Prop} {U : State} {H H1 : Heap} (h : vx_L C n d A U H) (hq : ∀ a : Nat, a < H.size → ¬ A a → H1[a]? = H[a]?) : vx_L C n d A U H1 := by
  obtain ⟨c, k, i, f, a, cell, h1, h2, h3, h4, h5, h6, h7, h8, h9, h10⟩ := h
  exact ⟨c, k, i, f, a, cell, h1, h2, h3, h4, by rw [hq a (Array.getElem?_eq_some_iff.mp h5).1 h10]; exact h5, h6, h7, h8, h9, h10⟩
theorem vx_L.narrow {C n d : String} {A B : Nat → Prop} {U : State} {H : Heap} (h : vx_L C n d A U H) (hAB : ∀ q, B q → A q) : vx_L C n d B U H := by
  obtain ⟨c, k, i, f, a, cell, h1, h2, h3, h4, h5, h6, h7, h8, h9, h10⟩ := h
  exact ⟨c, k, i, f, a, cell, h1, h2, h3, h4, h5, h6, h7, h8, h9, fun z => h10 (hAB _ z)⟩
theorem vx_L.word {C n d : String} {A : Nat → Prop} {s : State} {args : Array Value} (h : vx_L C n d A s s.heap) : (Cond.laysStatic C n d).before args s = true := by
  obtain ⟨c, k, i, f, a, cell, h1, h2, h3, h4, h5, h6, h7, h8, h9, -⟩ := h
  show (Cond.laysStatic C n d).holds args s none s [] = true
  exact Cond.laysStatic_of h1 h2 h3 h4 h5 h6 h7 h8 h9
/-- .. and what it holds: null or some reference -/
def vx_Zq (C n d : String) (A : Nat → Prop) (U : State) (H : Heap) : Prop := va_Zq C n d A U H ∧ vx_L C n d A U H
theorem vx_Zq.moved {C n d : String} {A : Nat → Prop} {u U : State} {H : Heap} (hvm : u.vm.Alike U.vm) (h : vx_Zq C n d A u H) : vx_Zq C n d A U H := ⟨va_Zq.moved hvm h.1, vx_L.moved hvm h.2⟩
theorem vx_Zq.kept {C n d : String} {A : Nat → Prop} {U : State} {H H1 : Heap} (h : vx_Zq C n d A U H) (hq : ∀ a : Nat, a < H.size → ¬ A a → H1[a]? = H[a]?) : vx_Zq C n d A U H1 := ⟨va_Zq.kept h.1 hq, vx_L.kept h.2 hq⟩
theorem vx_Zq.narrow {C n d : String} {A B : Nat → Prop} {U : State} {H : Heap} (h : vx_Zq C n d A U H) (hAB : ∀ q, B q → A q) : vx_Zq C n d B U H := ⟨va_Zq.narrow h.1 hAB, vx_L.narrow h.2 hAB⟩
theorem vx_Zqof {args : Array Value} {s : State} {C n d : String} {A : Nat → Prop} (hl : (Cond.laysStatic C n d).before args s = true) (hini : (Cond.initialized C).before args s = true) (h : (Cond.isRef (.static C n d)).before args s = true) (hA : ∀ a : Nat, a < s.heap.size → ¬ A a) : vx_Zq C n d A s s.heap := by
  refine ⟨va_Zqof hl hini h hA, ?_⟩
  obtain ⟨c, k, i, f, a, cell, h1, h2, h3, h4, h5, h6, h7, h8, h9⟩ := Cond.laysStatic_spec hl
  exact ⟨c, k, i, f, a, cell, h1, h2, h3, h4, h5, h6, h7, h8, h9, hA a (Array.getElem?_eq_some_iff.mp h5).1⟩
theorem vx_isRef {C n d : String} {v : Value} {A : Nat → Prop} {s : State} {args : Array Value} (h : va_Z C n d v A s s.heap) (hv : v.isRef = true) : (Cond.isRef (.static C n d)).before args s = true := by
  obtain ⟨cf, kf, fi, f, a, cell, h1, h2, h3, h4, h5, h6, h7, -⟩ := h
  have he : (Term.static C n d).eval args s none [] s = some v := by
    simp [Term.eval, State.fieldNamed?, h1, h2, h4, h5, h6, h7]
  simp only [Cond.before, Cond.holds, Cond.value, he]
  cases v <;> simp_all [Value.isRef]
theorem vx_isRefq {C n d : String} {A : Nat → Prop} {s : State} {args : Array Value} (h : va_Zq C n d A s s.heap) : (Cond.isRef (.static C n d)).before args s = true := by
  rcases h with h | ⟨t, h⟩
  · exact vx_isRef h rfl
  · exact vx_isRef h rfl
/-- the same frame, seen from here: as if the method were called anew in this heap -/
theorem vx_rebase {T : State} (X : Stand p l e R s m args below meth c T locs cells slots) {R' : Room} (hf : R'.frames ≤ R.frames) (hl : R'.locals ≤ R.locals) (hc : cells + R'.cells ≤ R.cells) (hs : slots + R'.slots ≤ R.slots) :
    Stand p l e R' ((T.setVm s.vm).setFrames (.invoking m args :: below)) m args below meth c T [] 0 0 := by
  have htop : (T.setVm s.vm).topJava?.isSome := X.here.top
  have hF : ((T.setVm s.vm).setFrames (.invoking m args :: below)).frames = .invoking m args :: below := State.frames_setFrames _ (State.cur_lt_of_top htop)
  obtain ⟨g₀, hg0⟩ := Option.isSome_iff_exists.mp htop
  obtain ⟨r, hr⟩ := State.topJava?_eq_some.mp hg0
  have hl9 : e.platform.stackLimits (T.setVm s.vm).me = e.platform.stackLimits s.me := X.limits
  have hb9 : (T.setVm s.vm).me.stackBytes = s.me.stackBytes := X.bytes
  refine ⟨X.admits, X.cas, X.clock, hF, ?_, X.hears, X.method, X.code, X.here, X.tail, X.warmed, ?_, ?_, ?_⟩
  · have h := X.room
    have hU : ((T.setVm s.vm).setFrames (.invoking m args :: below)).localsInUse = s.localsInUse := by
      rw [State.localsInUse_invoking hF (meth := meth) (c := c) X.method X.code, State.localsInUse_invoking X.frames X.method X.code]
    simp only [State.hasRoom, Bool.and_eq_true, decide_eq_true_eq] at h ⊢
    obtain ⟨⟨⟨⟨h1, h2, h3, h4, h5, h6⟩, h7⟩, h8⟩, h9⟩ := h
    rw [X.frames, List.length_cons] at h2 h3
    have q1 := X.heapSize
    have q2 := X.used
    simp only [hF, hU, List.length_cons, State.stackLimits_setFrames, State.stackBytes_setFrames, hl9, hb9]
    refine ⟨⟨⟨⟨by omega, by omega, by omega, by omega, by omega, h6⟩, ?_⟩, ?_⟩, X.book⟩
    · show T.heap.size + R'.cells ≤ e.platform.maxCells
      omega
    · show T.slotsUsed + R'.slots ≤ e.platform.maxSlots
      omega
  · rw [State.stackLimits_setFrames]; rfl
  · rw [State.stackBytes_setFrames]; rfl
  · refine ⟨?_, Nat.le_refl _, Nat.le_refl _, ?_, ?_, fun a c9 h9 => ⟨c9, h9, rfl, rfl, fun _ _ => rfl⟩⟩
    · obtain ⟨t, ht, -⟩ := State.frames_cons hr
      show T.setVm s.vm = { ((T.setVm s.vm).setFrames (.invoking m args :: below)).setFrames (T.setVm s.vm).frames with heap := T.heap, slotsUsed := T.slotsUsed }
      rw [State.setFrames_setFrames, State.setFrames_self ht]
      rfl
    · show T.slotsUsed = T.slotsUsed + ((T.heap.toList.drop T.heap.size).map (·.slots.size)).sum
      rw [List.drop_eq_nil_of_le (Nat.le_of_eq Array.length_toList)]
      rfl
    · show ((T.heap.toList.drop T.heap.size).map (·.slots.size)).sum ≤ 0
      rw [List.drop_eq_nil_of_le (Nat.le_of_eq Array.length_toList)]
      exact Nat.le_refl _
/-- 'throw new E()': new; dup; invokespecial; athrow -/
theorem vx_throw0 {cc : ByteArray} {pc : Nat} (hexec : p.tables.exec = Jvm.exec) (hb : c.code = cc) (hl : l.stackTraces = false) {own cls : String} {names : List String} {ik ic mc ms : Nat} {A : Nat → Prop}
    (hown : s.vm.findClass own = some m.cls) (hcls : Bundle.fit cls = true) (hnames : ∀ n ∈ names, Bundle.fit n = true)
    (hk : (Cond.classLink own ik cls).before args s = true) (hini : (Cond.initialized cls).before args s = true) (hat : ∀ w ∈ vx_at0 own ic cls names, w.before args s = true)
    (hgood : ∀ w ∈ Cond.classLink own ik cls :: Cond.initialized cls :: vx_at0 own ic cls names, vx_ot w = true)
    (hU : vx_Zq Bundle.tN "UNASSIGNED_STACK" Bundle.steD A s s.heap) (hN : vx_Zq Bundle.tN "SUPPRESSED_SENTINEL" Bundle.listD A s s.heap) (hS : va_S A s.heap H locs) (hsize : ls.size = c.maxLocals)
    (d0 : decode cc pc = .ok (.new ik, 3)) (d3 : decode cc (pc + 3) = .ok (.dup, 1)) (d4 : decode cc (pc + 4) = .ok (.invokespecial ic, 3)) (d7 : decode cc (pc + 7) = .ok (.athrow, 1))
    (hout : ∀ x ∈ c.exceptionTable.toList, covers x (pc + 7) = false)
    (hRframes : names.length + 3 < R.frames) (hRlocals : (rest.map fun v => v.category).sum + (13 * (names.length + 1) + 42) ≤ R.locals) (hRcells : cells + 1 ≤ R.cells) (hRslots : slots + 6 ≤ R.slots) (hlocks : meth.locks = false)
    (hx : ∀ t : State, s.vm.Alike t.vm → H.size ≤ t.heap.size → (∀ q : Nat, q < H.size → t.heap[q]? = H[q]?) → XC cls s t)
    (hf : ∀ z ∈ locs, free z.base) (hc : cells + 1 ≤ mc) (hs : slots + 6 ≤ ms) :
    W p l e R s m args below meth c H locs cells slots (vx_MQ below Qc XC args s mc ms free) (F0 m pc ls rest) := by
  intro T hT X
  have htr : e.platform.stackTraces = false := (show e.platform.stackTraces = l.stackTraces by rw [X.admits.platform]).trans hl
  have Y := vx_rebase X (R' := { frames := R.frames, locals := R.locals, cells := 1, slots := 6 }) (Nat.le_refl _) (Nat.le_refl _) hRcells hRslots
  obtain ⟨s', hA⟩ : ∃ z, z = (T.setVm s.vm).setFrames (.invoking m args :: below) := ⟨_, rfl⟩
  rw [← hA] at Y
  have hvm : s'.vm = s.vm := by rw [hA]; rfl
  have hhp : s'.heap = H := by rw [hA]; exact hT
  have hW0 : s.WarmedH s'.vm := by rw [hvm]; exact State.WarmedH.refl s
  have hat' : ∀ w ∈ vx_at0 own ic cls names, w.before args s' = true := fun w hw => vx_ot_at hW0 hvm.symm (hgood w (List.mem_cons_of_mem _ (List.mem_cons_of_mem _ hw))) (hat w hw)
  have hk' : (Cond.classLink own ik cls).before args s' = true := vx_ot_at hW0 hvm.symm (hgood _ List.mem_cons_self) hk
  have hini' : (Cond.initialized cls).before args s' = true := vx_ot_at hW0 hvm.symm (hgood _ (List.mem_cons_of_mem _ List.mem_cons_self)) hini
  have hU' : vx_Zq Bundle.tN "UNASSIGNED_STACK" Bundle.steD A s' s'.heap := by rw [hhp]; exact vx_Zq.moved hW0.alike (hU.kept hS.2.1)
  have hN' : vx_Zq Bundle.tN "SUPPRESSED_SENTINEL" Bundle.listD A s' s'.heap := by rw [hhp]; exact vx_Zq.moved hW0.alike (hN.kept hS.2.1)
  have h : ∀ w ∈ Bundle.ownAtoms0 own ic cls names, w.before args s' = true := vx_own hat' (vx_isRefq hU'.1) (vx_isRefq hN'.1) hU'.2.word hN'.2.word
  have hown' : s'.vm.findClass own = some m.cls := by rw [hvm]; exact hown
  have hins : (Cond.instantiable cls 6).before args s' = true := h _ (by simp [Bundle.ownAtoms0])
  obtain ⟨vm₁, cX, kX, hfX, hkX, -, -, X₁, st1⟩ := Y.newCold hexec (own := own) (C := cls) (index := ik) (n := 6) hown' hk' hins hini'
    (g := F0 m pc ls rest) rfl (by rw [hb]; exact d0) (Nat.le_refl _) (Nat.le_refl _)
  generalize hT1 : (T.setVm vm₁).pushCell { cls := cX, slots := kX.instanceTypes.map defaultValue, vm := .none } = T1 at X₁ st1
  have hcat : (Value.ref T.heap.size).category = 1 := rfl
  have hcellA : T1.heap[T.heap.size]? = some (freshCell cX kX) := by rw [← hT1]; exact State.heap_pushCell_size _ _
  have d3' : decode c.code (pc + 3) = .ok (.dup, 1) := by rw [hb]; exact d3
  obtain ⟨U, hsteps, hrun, hend, hW, hsame, ce, hce, hO⟩ := X₁.ctorThrow0 hexec htr (own := own) (cls := cls) (names := names) (ic := ic) hown' hcls hnames h (fun x hx => nomatch hx) hfX hkX hcellA (by rw [hhp, hT]; exact Nat.le_refl _)
    (g := { method := m, pc := pc + 4, locals := ls, stack := .ref T.heap.size :: .ref T.heap.size :: rest, locked := none }) rfl hsize rfl rfl (rest := rest) rfl
    (by rw [hb]; exact d4) (by rw [hb]; exact d7) hout hRframes (by simp only [List.map_cons, List.sum_cons, hcat]; omega) hlocks
  obtain ⟨f1, f2⟩ := vx_frame hsame
  rw [hhp] at f1 f2
  have hWs : s.WarmedH U.vm := State.WarmedH.trans hW0 hW
  have hcl : s.vm.findClass cls = some ce.cls := by
    have h9 := hO.cls
    rw [hvm] at h9
    exact h9
  have hall : s.sameButNew ({ U with vm := s.vm } : State) locs mc ms := by
    subst hA
    obtain ⟨e1, e2⟩ := hsame
    rw [State.setFrames_setFrames] at e1
    have h2 : (T.setVm s.vm).sameButNew ({ U with vm := s.vm } : State) [] (0 + 1) (0 + 6) := ⟨e1, e2⟩
    have h3 := X.same.trans h2
    rw [List.append_nil] at h3
    exact h3.mono hc hs
  refine ⟨U, ?_, .threw T.heap.size, hrun, hend, Or.inr ⟨T.heap.size, rfl, cls, ce, locs, hx U hWs.alike f1 (fun q hq => f2 q hq (fun z hz => nomatch hz)), hce, hO.vm, hcl, hWs, hall, hf⟩⟩
  refine st1 _ ?_
  show Steps p.tables e below (T1.setTop { method := m, pc := pc + 3, locals := ls, stack := .ref T.heap.size :: rest, locked := none }) _
  jvm_step X₁.here [X₁.here.top, hexec, d3', Value.category]
  exact hsteps
/-- 'throw new E("text")': new; dup; ldc; invokespecial; athrow -/
theorem vx_throwS {cc : ByteArray} {pc : Nat} (hexec : p.tables.exec = Jvm.exec) (hb : c.code = cc) (hl : l.stackTraces = false) {own cls text : String} {names : List String} {ik is ic mc ms sa : Nat} {A : Nat → Prop}
    (hown : s.vm.findClass own = some m.cls) (hcls : Bundle.fit cls = true) (hnames : ∀ n ∈ names, Bundle.fit n = true)
    (hk : (Cond.classLink own ik cls).before args s = true) (hini : (Cond.initialized cls).before args s = true) (hstr : vk_R own is text sa s) (hat : ∀ w ∈ vx_atS own ic cls names, w.before args s = true)
    (hgood : ∀ w ∈ Cond.classLink own ik cls :: Cond.initialized cls :: vx_atS own ic cls names, vx_ot w = true)
    (hU : vx_Zq Bundle.tN "UNASSIGNED_STACK" Bundle.steD A s s.heap) (hN : vx_Zq Bundle.tN "SUPPRESSED_SENTINEL" Bundle.listD A s s.heap) (hS : va_S A s.heap H locs) (hsize : ls.size = c.maxLocals)
    (d0 : decode cc pc = .ok (.new ik, 3)) (d3 : decode cc (pc + 3) = .ok (.dup, 1)) (d4 : decode cc (pc + 4) = .ok (.ldc is, 2)) (d6 : decode cc (pc + 6) = .ok (.invokespecial ic, 3)) (d9 : decode cc (pc + 9) = .ok (.athrow, 1))
    (hout : ∀ x ∈ c.exceptionTable.toList, covers x (pc + 9) = false)
    (hRframes : names.length + 3 < R.frames) (hRlocals : (rest.map fun v => v.category).sum + (13 * (names.length + 1) + 43) ≤ R.locals) (hRcells : cells + 1 ≤ R.cells) (hRslots : slots + 6 ≤ R.slots) (hlocks : meth.locks = false)
    (hx : ∀ t : State, s.vm.Alike t.vm → H.size ≤ t.heap.size → (∀ q : Nat, q < H.size → t.heap[q]? = H[q]?) → XC cls s t)
    (hf : ∀ z ∈ locs, free z.base) (hc : cells + 1 ≤ mc) (hs : slots + 6 ≤ ms) :
    W p l e R s m args below meth c H locs cells slots (vx_MQ below Qc XC args s mc ms free) (F0 m pc ls rest) := by
  intro T hT X
  have htr : e.platform.stackTraces = false := (show e.platform.stackTraces = l.stackTraces by rw [X.admits.platform]).trans hl
  have Y := vx_rebase X (R' := { frames := R.frames, locals := R.locals, cells := 1, slots := 6 }) (Nat.le_refl _) (Nat.le_refl _) hRcells hRslots
  obtain ⟨s', hA⟩ : ∃ z, z = (T.setVm s.vm).setFrames (.invoking m args :: below) := ⟨_, rfl⟩
  rw [← hA] at Y
  have hvm : s'.vm = s.vm := by rw [hA]; rfl
  have hhp : s'.heap = H := by rw [hA]; exact hT
  have hW0 : s.WarmedH s'.vm := by rw [hvm]; exact State.WarmedH.refl s
  have hat' : ∀ w ∈ vx_atS own ic cls names, w.before args s' = true := fun w hw => vx_ot_at hW0 hvm.symm (hgood w (List.mem_cons_of_mem _ (List.mem_cons_of_mem _ hw))) (hat w hw)
  have hk' : (Cond.classLink own ik cls).before args s' = true := vx_ot_at hW0 hvm.symm (hgood _ List.mem_cons_self) hk
  have hini' : (Cond.initialized cls).before args s' = true := vx_ot_at hW0 hvm.symm (hgood _ (List.mem_cons_of_mem _ List.mem_cons_self)) hini
  have hU' : vx_Zq Bundle.tN "UNASSIGNED_STACK" Bundle.steD A s' s'.heap := by rw [hhp]; exact vx_Zq.moved hW0.alike (hU.kept hS.2.1)
  have hN' : vx_Zq Bundle.tN "SUPPRESSED_SENTINEL" Bundle.listD A s' s'.heap := by rw [hhp]; exact vx_Zq.moved hW0.alike (hN.kept hS.2.1)
  have h : ∀ w ∈ Bundle.ownAtoms own ic cls names, w.before args s' = true := vx_own hat' (vx_isRefq hU'.1) (vx_isRefq hN'.1) hU'.2.word hN'.2.word
  have hown' : s'.vm.findClass own = some m.cls := by rw [hvm]; exact hown
  have hins : (Cond.instantiable cls 6).before args s' = true := h _ (by simp [Bundle.ownAtoms])
  obtain ⟨vm₁, cX, kX, hfX, hkX, -, -, X₁, st1⟩ := Y.newCold hexec (own := own) (C := cls) (index := ik) (n := 6) hown' hk' hins hini'
    (g := F0 m pc ls rest) rfl (by rw [hb]; exact d0) (Nat.le_refl _) (Nat.le_refl _)
  generalize hT1 : (T.setVm vm₁).pushCell { cls := cX, slots := kX.instanceTypes.map defaultValue, vm := .none } = T1 at X₁ st1
  have hcat : (Value.ref T.heap.size).category = 1 := rfl
  have hcellA : T1.heap[T.heap.size]? = some (freshCell cX kX) := by rw [← hT1]; exact State.heap_pushCell_size _ _
  have d3' : decode c.code (pc + 3) = .ok (.dup, 1) := by rw [hb]; exact d3
  have d4' : decode c.code (pc + 4) = .ok (.ldc is, 2) := by rw [hb]; exact d4
  have hstr' : vk_R own is text sa s' := vk_R.warm hW0 hstr
  obtain ⟨U, hsteps, hrun, hend, hW, hsame, ce, hce, hO⟩ := X₁.ctorThrowS hexec htr (own := own) (cls := cls) (names := names) (ic := ic) hown' hcls hnames h (fun x hx => nomatch hx) hfX hkX hcellA (by rw [hhp, hT]; exact Nat.le_refl _) (msg := .ref sa) rfl
    (g := { method := m, pc := pc + 6, locals := ls, stack := .ref sa :: .ref T.heap.size :: .ref T.heap.size :: rest, locked := none }) rfl hsize rfl rfl (rest := rest) rfl
    (by rw [hb]; exact d6) (by rw [hb]; exact d9) hout hRframes (by simp only [List.map_cons, List.sum_cons, hcat]; omega) hlocks
  obtain ⟨f1, f2⟩ := vx_frame hsame
  rw [hhp] at f1 f2
  have hWs : s.WarmedH U.vm := State.WarmedH.trans hW0 hW
  have hcl : s.vm.findClass cls = some ce.cls := by
    have h9 := hO.cls
    rw [hvm] at h9
    exact h9
  have hall : s.sameButNew ({ U with vm := s.vm } : State) locs mc ms := by
    subst hA
    obtain ⟨e1, e2⟩ := hsame
    rw [State.setFrames_setFrames] at e1
    have h2 : (T.setVm s.vm).sameButNew ({ U with vm := s.vm } : State) [] (0 + 1) (0 + 6) := ⟨e1, e2⟩
    have h3 := X.same.trans h2
    rw [List.append_nil] at h3
    exact h3.mono hc hs
  refine ⟨U, ?_, .threw T.heap.size, hrun, hend, Or.inr ⟨T.heap.size, rfl, cls, ce, locs, hx U hWs.alike f1 (fun q hq => f2 q hq (fun z hz => nomatch hz)), hce, hO.vm, hcl, hWs, hall, hf⟩⟩
  refine st1 _ ?_
  show Steps p.tables e below (T1.setTop { method := m, pc := pc + 3, locals := ls, stack := .ref T.heap.size :: rest, locked := none }) _
  jvm_step X₁.here [X₁.here.top, hexec, d3', Value.category]
  exact X₁.ldcString hexec (own := own) (text := text) (index := is) (a := sa) hown' hstr'.1 hstr'.2
    (g := { method := m, pc := pc + 4, locals := ls, stack := .ref T.heap.size :: .ref T.heap.size :: rest, locked := none }) rfl d4' _ hsteps
/-- 'throw new E("text")', the text by a wide index -/
theorem vx_throwSW {cc : ByteArray} {pc : Nat} (hexec : p.tables.exec = Jvm.exec) (hb : c.code = cc) (hl : l.stackTraces = false) {own cls text : String} {names : List String} {ik is ic mc ms sa : Nat} {A : Nat → Prop}
    (hown : s.vm.findClass own = some m.cls) (hcls : Bundle.fit cls = true) (hnames : ∀ n ∈ names, Bundle.fit n = true)
    (hk : (Cond.classLink own ik cls).before args s = true) (hini : (Cond.initialized cls).before args s = true) (hstr : vk_R own is text sa s) (hat : ∀ w ∈ vx_atS own ic cls names, w.before args s = true)
    (hgood : ∀ w ∈ Cond.classLink own ik cls :: Cond.initialized cls :: vx_atS own ic cls names, vx_ot w = true)
    (hU : vx_Zq Bundle.tN "UNASSIGNED_STACK" Bundle.steD A s s.heap) (hN : vx_Zq Bundle.tN "SUPPRESSED_SENTINEL" Bundle.listD A s s.heap) (hS : va_S A s.heap H locs) (hsize : ls.size = c.maxLocals)
    (d0 : decode cc pc = .ok (.new ik, 3)) (d3 : decode cc (pc + 3) = .ok (.dup, 1)) (d4 : decode cc (pc + 4) = .ok (.ldc_w is, 3)) (d7 : decode cc (pc + 7) = .ok (.invokespecial ic, 3)) (d10 : decode cc (pc + 10) = .ok (.athrow, 1))
    (hout : ∀ x ∈ c.exceptionTable.toList, covers x (pc + 10) = false)
    (hRframes : names.length + 3 < R.frames) (hRlocals : (rest.map fun v => v.category).sum + (13 * (names.length + 1) + 43) ≤ R.locals) (hRcells : cells + 1 ≤ R.cells) (hRslots : slots + 6 ≤ R.slots) (hlocks : meth.locks = false)
    (hx : ∀ t : State, s.vm.Alike t.vm → H.size ≤ t.heap.size → (∀ q : Nat, q < H.size → t.heap[q]? = H[q]?) → XC cls s t)
    (hf : ∀ z ∈ locs, free z.base) (hc : cells + 1 ≤ mc) (hs : slots + 6 ≤ ms) :
    W p l e R s m args below meth c H locs cells slots (vx_MQ below Qc XC args s mc ms free) (F0 m pc ls rest) := by
  intro T hT X
  have htr : e.platform.stackTraces = false := (show e.platform.stackTraces = l.stackTraces by rw [X.admits.platform]).trans hl
  have Y := vx_rebase X (R' := { frames := R.frames, locals := R.locals, cells := 1, slots := 6 }) (Nat.le_refl _) (Nat.le_refl _) hRcells hRslots
  obtain ⟨s', hA⟩ : ∃ z, z = (T.setVm s.vm).setFrames (.invoking m args :: below) := ⟨_, rfl⟩
  rw [← hA] at Y
  have hvm : s'.vm = s.vm := by rw [hA]; rfl
  have hhp : s'.heap = H := by rw [hA]; exact hT
  have hW0 : s.WarmedH s'.vm := by rw [hvm]; exact State.WarmedH.refl s
  have hat' : ∀ w ∈ vx_atS own ic cls names, w.before args s' = true := fun w hw => vx_ot_at hW0 hvm.symm (hgood w (List.mem_cons_of_mem _ (List.mem_cons_of_mem _ hw))) (hat w hw)
  have hk' : (Cond.classLink own ik cls).before args s' = true := vx_ot_at hW0 hvm.symm (hgood _ List.mem_cons_self) hk
  have hini' : (Cond.initialized cls).before args s' = true := vx_ot_at hW0 hvm.symm (hgood _ (List.mem_cons_of_mem _ List.mem_cons_self)) hini
  have hU' : vx_Zq Bundle.tN "UNASSIGNED_STACK" Bundle.steD A s' s'.heap := by rw [hhp]; exact vx_Zq.moved hW0.alike (hU.kept hS.2.1)
  have hN' : vx_Zq Bundle.tN "SUPPRESSED_SENTINEL" Bundle.listD A s' s'.heap := by rw [hhp]; exact vx_Zq.moved hW0.alike (hN.kept hS.2.1)
  have h : ∀ w ∈ Bundle.ownAtoms own ic cls names, w.before args s' = true := vx_own hat' (vx_isRefq hU'.1) (vx_isRefq hN'.1) hU'.2.word hN'.2.word
  have hown' : s'.vm.findClass own = some m.cls := by rw [hvm]; exact hown
  have hins : (Cond.instantiable cls 6).before args s' = true := h _ (by simp [Bundle.ownAtoms])
  obtain ⟨vm₁, cX, kX, hfX, hkX, -, -, X₁, st1⟩ := Y.newCold hexec (own := own) (C := cls) (index := ik) (n := 6) hown' hk' hins hini'
    (g := F0 m pc ls rest) rfl (by rw [hb]; exact d0) (Nat.le_refl _) (Nat.le_refl _)
  generalize hT1 : (T.setVm vm₁).pushCell { cls := cX, slots := kX.instanceTypes.map defaultValue, vm := .none } = T1 at X₁ st1
  have hcat : (Value.ref T.heap.size).category = 1 := rfl
  have hcellA : T1.heap[T.heap.size]? = some (freshCell cX kX) := by rw [← hT1]; exact State.heap_pushCell_size _ _
  have d3' : decode c.code (pc + 3) = .ok (.dup, 1) := by rw [hb]; exact d3
  have d4' : decode c.code (pc + 4) = .ok (.ldc_w is, 3) := by rw [hb]; exact d4
  have hstr' : vk_R own is text sa s' := vk_R.warm hW0 hstr
  obtain ⟨U, hsteps, hrun, hend, hW, hsame, ce, hce, hO⟩ := X₁.ctorThrowS hexec htr (own := own) (cls := cls) (names := names) (ic := ic) hown' hcls hnames h (fun x hx => nomatch hx) hfX hkX hcellA (by rw [hhp, hT]; exact Nat.le_refl _) (msg := .ref sa) rfl
    (g := { method := m, pc := pc + 7, locals := ls, stack := .ref sa :: .ref T.heap.size :: .ref T.heap.size :: rest, locked := none }) rfl hsize rfl rfl (rest := rest) rfl
    (by rw [hb]; exact d7) (by rw [hb]; exact d10) hout hRframes (by simp only [List.map_cons, List.sum_cons, hcat]; omega) hlocks
  obtain ⟨f1, f2⟩ := vx_frame hsame
  rw [hhp] at f1 f2
  have hWs : s.WarmedH U.vm := State.WarmedH.trans hW0 hW
  have hcl : s.vm.findClass cls = some ce.cls := by
    have h9 := hO.cls
    rw [hvm] at h9
    exact h9
  have hall : s.sameButNew ({ U with vm := s.vm } : State) locs mc ms := by
    subst hA
    obtain ⟨e1, e2⟩ := hsame
    rw [State.setFrames_setFrames] at e1
    have h2 : (T.setVm s.vm).sameButNew ({ U with vm := s.vm } : State) [] (0 + 1) (0 + 6) := ⟨e1, e2⟩
    have h3 := X.same.trans h2
    rw [List.append_nil] at h3
    exact h3.mono hc hs
  refine ⟨U, ?_, .threw T.heap.size, hrun, hend, Or.inr ⟨T.heap.size, rfl, cls, ce, locs, hx U hWs.alike f1 (fun q hq => f2 q hq (fun z hz => nomatch hz)), hce, hO.vm, hcl, hWs, hall, hf⟩⟩
  refine st1 _ ?_
  show Steps p.tables e below (T1.setTop { method := m, pc := pc + 3, locals := ls, stack := .ref T.heap.size :: rest, locked := none }) _
  jvm_step X₁.here [X₁.here.top, hexec, d3', Value.category]
  exact X₁.ldcStringW hexec (own := own) (text := text) (index := is) (a := sa) hown' hstr'.1 hstr'.2
    (g := { method := m, pc := pc + 4, locals := ls, stack := .ref T.heap.size :: .ref T.heap.size :: rest, locked := none }) rfl d4' _ hsteps
end Ends
section Bodies
variable {l : Launch}
theorem vx_ofW {y : MethodName} {ws ws' : List Cond} {rm : Room} {Pc : Array Value → State → Prop} {Qc : Array Value → State → Outcome → State → Prop} {XC : String → State → State → Prop} {mc ms : Nat} {free : Addr → Prop} {cc : ByteArray} {maxL : Nat} {ret : Option FieldType}
    (hy : plainName y.cls = true) (hw : ws = Cond.code y cc maxL ret :: ws')
    (body : ∀ p e s m args below meth c s₁, BodyLoose p l y (headSpec ws rm) cc maxL ret e s m args below meth c s₁ → c.maxLocals = maxL → (∀ x ∈ c.exceptionTable.toList, False) → Pc args s →
      W p l e (headSpec ws rm).room s m args below meth c s.heap [] 0 0 (vx_MQ below Qc XC args s mc ms free) (entryFrame m args maxL)) : vx_Met l y ws rm Pc Qc XC mc ms free := by
  refine MetFree.of_bodyS (code := cc) (maxLocals := maxL) (ret := ret) hy ?_ ?_
  · intro args s m h hn
    obtain ⟨meth, c, h1, h2, h3, h4, h5, h6, -, -⟩ := Cond.code_spec hn (atoms_spec (ws := ws) h _ (by rw [hw]; exact List.mem_cons_self))
    exact ⟨meth, c, h1, h2, h3, h4, h5, h6⟩
  · intro p e s m args below meth c s₁ B hml hP _
    have hh0 : s₁.heap = s.heap := by rw [B.state]; rfl
    have ht : ∀ x ∈ c.exceptionTable.toList, False := by
      obtain ⟨meth9, c9, h1, h2, -, -, -, -, h7, -⟩ := Cond.code_spec B.named (atoms_spec (ws := ws) B.pre _ (by rw [hw]; exact List.mem_cons_self))
      cases Option.some.inj (h1.symm.trans B.method)
      cases Option.some.inj (h2.symm.trans (Stand.of_body B).code)
      intro x hx
      rw [Array.isEmpty_iff.mp h7] at hx
      cases hx
    obtain ⟨t, a1, o, b1, b2, b3⟩ := body p e s m args below meth c s₁ B hml ht hP s₁ hh0 (Stand.of_body B)
    exact ⟨t, o, a1, b1, b2, b3⟩
/-- the table of a body with handlers -/
theorem vx_table {p : Program} {x y : MethodName} {S : Spec} {cc bytes : ByteArray} {maxL maxL' : Nat} {ret ret' : Option FieldType} {e : Env} {s s₁ : State} {m : MethodId} {args : Array Value} {below : List Frame} {meth : Method} {c : Code} {hh : List (Nat × Nat × Nat × Nat)}
    (B : BodyLoose p l y S cc maxL ret e s m args below meth c s₁) (h : (Cond.codeWith y bytes maxL' ret' hh).before args s = true) : c.exceptionTable.toList = tableOf hh := by
  obtain ⟨m9, meth9, c9, hn9, h1, h2, -, -, h6, -⟩ := Cond.codeWith_spec h
  cases Option.some.inj (hn9.symm.trans B.named)
  cases Option.some.inj (h1.symm.trans B.method)
  cases Option.some.inj (h2.symm.trans (Stand.of_body B).code)
  rw [← h6, table_eq]
end Bodies
end VXA
/-! ===== END ===== -/
/-! ===== BEGIN a static call of a method with an exception table ===== -/
section VXS
variable {p : Program} {l : Launch} {e : Env} {R : Room} {s : State} {m : MethodId} {args : Array Value} {below : List Frame} {meth : Method} {c : Code} {T : State} {H : Heap} {locs : List Loc} {cells slots : Nat}
abbrev vx_CSW (R : Room) (s : State) (args : Array Value) (own : String) (index : Nat) (y : MethodName) (bytes : ByteArray) (maxL : Nat) (ret : Option FieldType) (hh : List (Nat × Nat × Nat × Nat)) (ws : List Cond) (rm : Room) (mc ms n : Nat) : Prop :=
  (rm.cells = mc ∧ rm.slots = ms ∧ rm.frames + 1 ≤ R.frames ∧ 8 + (maxL + 11) + rm.locals ≤ R.locals ∧ (∀ w ∈ ws, ∀ (a' : Array Value) (U : State), s.WarmedH U.vm → w.before a' U = true) ∧ Cond.codeWith y bytes maxL ret hh ∈ ws) ∧
  (Cond.codeWith y bytes maxL ret hh).before args s = true ∧ (Cond.initialized y.cls).before args s = true ∧ (y.cls ≠ "java/lang/invoke/MethodHandle" ∧ y.cls ≠ "java/lang/invoke/VarHandle") ∧
  (∀ sig, parseMethodDescriptor y.desc = some sig → n = sig.parameters.length) ∧ (Cond.methodLink own index y).before args s = true ∧ (Cond.static y).before args s = true
theorem vx_cwSW {own : String} {index maxL mc ms : Nat} {y : MethodName} {bytes : ByteArray} {ret : Option FieldType} {hh : List (Nat × Nat × Nat × Nat)} {Ts ws ws' : List Cond} {rm : Room} (n : Nat) (ht : ∀ w ∈ Ts, w.before args s = true) (hT : GoodIn Ts (va_wsS own index y ws)) (hw : ws = Cond.codeWith y bytes maxL ret hh :: ws') (hrc : rm.cells = mc) (hrs : rm.slots = ms)
    (hd : y.cls ≠ "java/lang/invoke/MethodHandle" ∧ y.cls ≠ "java/lang/invoke/VarHandle" ∧ (parseMethodDescriptor y.desc).map (fun d => d.parameters.length) = some n) (hR : rm.frames + 1 ≤ R.frames ∧ 8 + (maxL + 11) + rm.locals ≤ R.locals) :
    vx_CSW R s args own index y bytes maxL ret hh ws rm mc ms n := by
  have ok : ∀ w ∈ va_wsS own index y ws, w.before args s = true := fun w h => ht w (hT w h).1
  have hG : GoodIn Ts ws := fun w h => hT w (by unfold va_wsS; exact List.mem_append_right _ h)
  have hc : Cond.codeWith y bytes maxL ret hh ∈ ws := by rw [hw]; exact List.mem_cons_self
  refine ⟨⟨hrc, hrs, hR.1, hR.2, pay_in ht hG, hc⟩, ht _ (hG _ hc).1, ok _ (by simp [va_wsS]), ⟨hd.1, hd.2.1⟩, fun sig h => ?_, ok _ (by simp [va_wsS]), ok _ (by simp [va_wsS])⟩
  have h2 := hd.2.2
  rw [h] at h2
  exact (Option.some.inj h2).symm
theorem vx_callSW (X : Stand p l e R s m args below meth c T locs cells slots) (hexec : p.tables.exec = Jvm.exec) {own : String} {index : Nat} {y : MethodName} {bytes : ByteArray} {maxL : Nat} {ret : Option FieldType} {hh : List (Nat × Nat × Nat × Nat)}
    (hown : s.vm.findClass own = some m.cls) (hlink : (Cond.methodLink own index y).before args s = true) (hstat : (Cond.static y).before args s = true) (hinit : (Cond.initialized y.cls).before args s = true)
    (hcode : (Cond.codeWith y bytes maxL ret hh).before args s = true) (hy : y.cls ≠ "java/lang/invoke/MethodHandle" ∧ y.cls ≠ "java/lang/invoke/VarHandle")
    {W9 : Nat} {Pre : Pt → Array Value → Prop} {Post : Pt → Array Value → Option Value → Pt → Prop} (hK : Back l R p e below s args y 3 W9 Pre Post)
    {g : JFrame} (hg : g.method = m) (hsize : g.locals.size = c.maxLocals) {argsL rest : List Value} (hlen : ∀ sig, parseMethodDescriptor y.desc = some sig → argsL.length = sig.parameters.length)
    (hstack : g.stack = argsL.reverse ++ rest) (hW : 2 * g.monitorRoom + (rest.map fun v => v.category).sum ≤ W9) (hdg : decode c.code g.pc = .ok (.invokestatic index, 3))
    (hpre : ∀ vm₁, s.WarmedH vm₁ → Pre ⟨T.setVm vm₁, locs, cells, slots⟩ argsL.toArray) :
    ∃ (v : Option Value) (vm₁ : Vm) (B : Pt), s.WarmedH vm₁ ∧ Stand p l e R s m args below meth c B.U B.locs B.cells B.slots ∧ Post ⟨T.setVm vm₁, locs, cells, slots⟩ argsL.toArray v B ∧
      ∀ target, Steps p.tables e below (B.U.setTop { g with pc := g.pc + 3, stack := v.toList ++ rest }) target → Steps p.tables e below (T.setTop g) target := by
  obtain ⟨mk, methM, cM, hnamed, hmethM, -, -, -, -, -, -, hsigM⟩ := Cond.codeWith_spec hcode
  have hstatic : methM.isStatic = true := Cond.static_spec hnamed hmethM hstat
  obtain ⟨kP, hkP, -⟩ := className_of_methodNamed hnamed
  have hinitP : kP.init = .initialized := Cond.initialized_spec (findClass_of_methodNamed hnamed) hkP hinit
  obtain ⟨vm₁, X₁, hstep₁⟩ := X.invokestatic hexec hown hlink hnamed hmethM hstatic hkP hinitP hy (g := g) hg (argsL := argsL) (rest := rest) (hlen _ hsigM) hstack hdg
  obtain ⟨v, B, X', hpost, hsteps⟩ := hK m meth c ⟨T.setVm vm₁, locs, cells, slots⟩ { g with stack := rest } (.invokestatic index) mk argsL.toArray X₁ hg hsize hdg hW (X₁.named hnamed) (hpre vm₁ X₁.warmed)
  exact ⟨v, vm₁, B, X₁.warmed, X', hpost, fun target h => hstep₁ _ fun acts => by rw [doInvoke_state]; exact hsteps.trans h⟩
theorem vx_runSW {y : MethodName} {bytes cc : ByteArray} {maxL nL mc ms n index : Nat} {ret : Option FieldType} {hh : List (Nat × Nat × Nat × Nat)} {ws : List Cond} {rm : Room} {Pc : Array Value → State → Prop} {Qc : Array Value → State → Outcome → State → Prop} {free : Addr → Prop} {Ts : List Cond} {own : String} {As rest : List Value} {g : JFrame}
    (S : CallFix p m c cc nL s args Ts own) (hM : Met l y ws rm Pc Qc mc ms free) (cw : vx_CSW R s args own index y bytes maxL ret hh ws rm mc ms n) (hp : PreS s H Pc As)
    (hg : g.method = m) (hn : As.length = n) (hsize : g.locals.size = nL) (hstack : g.stack = As.reverse ++ rest) (hW : 2 * g.monitorRoom + (rest.map fun v => v.category).sum ≤ 8) (hdg : decode cc g.pc = .ok (.invokestatic index, 3)) (hf : cells + mc ≤ R.cells ∧ slots + ms ≤ R.slots) :
    va_Run p l e R s m args below meth c H locs cells slots mc ms g rest (Qc As.toArray) (free) := by
  obtain ⟨⟨hrc, hrs, hfr, hlo, hws, hcw⟩, hcode, hini, hy, hlen, hl, hstt⟩ := cw
  have hK : Back l R p e below s args y 3 8 (PreOf R mc ms Pc) (PostOf Qc mc ms free) := va_backW (hh := hh) (bytes := bytes) (maxL := maxL) (ret := ret) hM hp.1 hrc hrs hfr hlo hws hcw (fun a' U hW => word_at hW (Or.inl (by first | rfl | simp [Cond.onTables, Cond.keeps, Cond.steady])) hini)
  obtain ⟨hx, hb, hml, ho, -⟩ := S
  intro T hT X
  obtain ⟨v, vm₁, ⟨U', l2, c2, s2⟩, hW₁, X', ⟨g', mk, t, L, e1, e2, hq, h1, hL, h2, h3⟩, st⟩ := vx_callSW X hx (hh := hh) (bytes := bytes) (maxL := maxL) (ret := ret) ho hl hstt hini hcode hy hK hg (hsize.trans hml.symm) (argsL := As) (rest := rest) (fun sig h => hn.trans (hlen sig h)) hstack hW (by rw [hb]; exact hdg)
    (fun vm₁ hW₁ => ⟨hf.1, hf.2, hp.2 (T.setVm vm₁) hT hW₁⟩)
  dsimp only [Pt.U, Pt.locs, Pt.cells, Pt.slots] at X' e1 e2 h1 h2 h3 st
  subst h1; subst h2; subst h3
  exact ⟨v, (T.setVm vm₁).calling g' mk As.toArray, t, U', L, hT, X', hL, e1, e2, hq, st⟩
/-- not caught here, past rows that name other classes: it goes on to the caller -/
theorem vx_outP {p : Program} {l : Launch} {e : Env} {R : Room} {s : State} {m : MethodId} {args : Array Value} {below : List Frame} {meth : Method} {c : Code} {H : Heap} {locs : List Loc} {cells slots : Nat} {free : Addr → Prop} {ls : Array Slot} {rest : List Value} {Qc : Array Value → State → Outcome → State → Prop} {XC : String → State → State → Prop}
    {pc : Nat} {own E : String} {ce : Cell} {q : Addr} {mc ms : Nat} (hown : s.vm.findClass own = some m.cls) (hlocks : meth.locks = false)
    (hpass : ∀ z ∈ c.exceptionTable.toList, covers z pc = false ∨ (z.catchType ≠ 0 ∧ ∃ nm : String, (Cond.classLink own z.catchType nm).before args s = true ∧ va_Nc E nm s)) (hcell : H[q]? = some ce) (hv : ce.vm = .none) (hcl : s.vm.findClass E = some ce.cls)
    (hx : ∀ t : State, t.heap = H → s.vm.Alike t.vm → XC E s t) (hf : ∀ z ∈ locs, free z.base) (hc : cells ≤ mc) (hs : slots ≤ ms) :
    vx_W p l e R s m args below meth c H locs cells slots (vx_MQ below Qc XC args s mc ms free) (F0 m pc ls rest) q := by
  intro T hT X
  have hpl : e.platform.magicAccessors = ({} : Platform).magicAccessors := by rw [X.admits.platform]
  obtain ⟨vm', hW', X', st⟩ := X.outThrough hlocks q (g := F0 m pc ls rest) rfl rfl rfl (cell := ce) (by rw [hT]; exact hcell) (by rw [hv]; rfl)
    (by obtain ⟨k9, h9, -⟩ := Vm.findClass_spec hcl; exact ⟨k9, h9⟩) (fun z hz => by
      rcases hpass z hz with h | ⟨hz0, nm, hl1, hn1⟩
      · exact Or.inl h
      · obtain ⟨c6, hc6, hcl6⟩ := Cond.classLink_spec hown hl1 e.platform hpl
        obtain ⟨a8, b8, h1, h2, h3⟩ := hn1
        cases Option.some.inj (h1.symm.trans hcl)
        cases Option.some.inj (h2.symm.trans hc6)
        exact Or.inr ⟨hz0, _, hcl6, h3⟩)
  obtain ⟨g₀, hfr⟩ := X'.frames_eq
  have hcell9 : ((T.setVm vm').setFrames (.throwing q :: below)).heap[q]? = some ce := by
    show T.heap[q]? = some ce
    rw [hT]; exact hcell
  have hend : Ended ((T.setVm vm').setFrames (.throwing q :: below)) below (.threw q) := State.frames_setFrames _ (State.cur_lt_of_frames hfr)
  refine ⟨(T.setVm vm').setFrames (.throwing q :: below), ?_, .threw q, X'.here.running, hend, Or.inr ⟨q, rfl, E, ce, locs, hx _ hT (X'.ends _).1.alike, hcell9, hv, hcl, (X'.ends _).1, (X'.ends _).2.mono hc hs, hf⟩⟩
  rw [X.pushThrowing_eq]
  exact st
/-- a thing of a world lies in the heap -/
theorem vx_lt {D : va_G} {cl : List vw_C} {ws : va_W} {H1 : Heap} (h : va_P D cl ws H1) {k : Nat} {q : Nat × va_E} (hk : ws[k]? = some q) : q.1 < H1.size := (h k q hk).lt
end VXS
/-! ===== END ===== -/
/-! ===== BEGIN methods with a table of their own: called by a name, returning or throwing ===== -/
section VXH
/-! vx_backW, vx_callVX, vx_callSX, vx_callVW, vx_runVW, vx_runVX, vx_runSX, vx_ofWH follow the same proofs as their sisters above (Free/Laws.lean, Shelf42/LK1.lean); vx_outP calls Shelf42/NT130.lean (outThrough). -/
section
variable {l : Launch} {R : Room} {p : Program} {e : Env} {below : List Frame} {s : State} {sargs : Array Value} {y : MethodName} {len W9 : Nat}
theorem vx_backW {ws : List Cond} {rm : Room} {Pc : Array Value → State → Prop} {Qc : Array Value → State → Outcome → State → Prop} {XC : String → State → State → Prop} {mc ms : Nat} {free : Addr → Prop} {bytes : ByteArray} {maxL : Nat} {ret : Option FieldType} {hh : List (Nat × Nat × Nat × Nat)}
    (hM : vx_Met l y ws rm Pc Qc XC mc ms free) (hblind : FrameBlind Pc) (hrc : rm.cells = mc) (hrs : rm.slots = ms)
    (hframes : rm.frames + 1 ≤ R.frames) (hlocals : W9 + (maxL + 11) + rm.locals ≤ R.locals)
    (hws : ∀ w ∈ ws, ∀ a' U, s.WarmedH U.vm → w.before a' U = true) (hcode : Cond.codeWith y bytes maxL ret hh ∈ ws) (hinit : ∀ a' U, s.WarmedH U.vm → (Cond.initialized y.cls).before a' U = true) :
    vx_Back l R p e below s sargs y len W9 (PreOf R mc ms Pc) (PostOf Qc mc ms free) (vx_Post XC mc ms free) := by
  intro m meth c A g ig mk a X hg hsize hdg hW hn hp
  have h1 : (headSpec ws rm).pre.before a A.U = true := atoms_intro fun w hw => hws w hw _ _ X.warmed
  have h2 : (Cond.codeWith y bytes maxL ret hh).before a A.U = true := hws _ hcode _ _ X.warmed
  have h3 : (Cond.initialized y.cls).before a A.U = true := hinit _ _ X.warmed
  have h4 : A.cells + (headSpec ws rm).room.cells ≤ R.cells := by rw [show (headSpec ws rm).room.cells = mc from hrc]; exact hp.1
  have h5 : A.slots + (headSpec ws rm).room.slots ≤ R.slots := by rw [show (headSpec ws rm).room.slots = ms from hrs]; exact hp.2.1
  have hPc : Pc a (A.U.calling g mk a) := hblind _ _ _ _ hp.2.2
  obtain ⟨U, Ls, c0, s0⟩ := A
  dsimp only [Pt.U, Pt.locs, Pt.cells, Pt.slots] at h1 h2 h3 h4 h5 X hn hPc ⊢
  obtain ⟨m9, methY, cY, hn9, hmY, hcY, -, hlY, -⟩ := Cond.codeWith_spec h2
  cases Option.some.inj (hn9.symm.trans hn)
  obtain ⟨kY, hkY, -⟩ := className_of_methodNamed hn
  have hinitY : kY.init = .initialized := Cond.initialized_spec (findClass_of_methodNamed hn) hkY h3
  have h : At U g.method c below := by rw [hg]; exact X.here
  have hlocals9 : W9 + (maxL + 11) + (headSpec ws rm).room.locals ≤ R.locals := hlocals
  have happ : (headSpec ws rm).appliesLoose y e.platform (U.calling g mk a) = true :=
    Spec.appliesLoose_calling (g := g) h hdg hn hkY hinitY
      (X.room_calling (g := g) (R' := (headSpec ws rm).room) hsize hmY hcY hframes (by rw [hlY]; omega) h4 h5) h1
  obtain ⟨mid, hmid⟩ := h.above
  have hfr : (U.setTop g).frames = (.java g :: mid) ++ below := by rw [State.frames_setTop' g h.top, hmid]; rfl
  obtain ⟨o, s₂, hsteps, -, hend, hq⟩ := Steps.callFree hM p X.admits X.cas X.clock (acts := []) hfr happ hPc trivial
  have hq' : vx_Q Qc XC mc ms free a (U.calling g mk a) o s₂ := hq
  rw [State.frames_setTop' g h.top] at hend
  obtain ⟨g₀, hg0⟩ := Option.isSome_iff_exists.mp h.top
  obtain ⟨r, hr⟩ := State.topJava?_eq_some.mp hg0
  have hr' : (({ U with heap := s₂.heap, slotsUsed := s₂.slotsUsed } : State).setVm s₂.vm).frames = .java g₀ :: r := hr
  rcases hq' with ⟨hqc, L, hfe, hL⟩ | ⟨q, rfl, E, ce, L, hx, hce, hcv, hcl, hW₂, hsm, hL⟩
  · obtain ⟨⟨v, rfl⟩, hW₂, e2, q2, q3, q4, q5, q6⟩ := id hfe
    have e3 : s₂ = ({ (U.calling g mk a).setFrames s₂.frames with heap := s₂.heap, slotsUsed := s₂.slotsUsed } : State).setVm s₂.vm := by
      have : s₂ = ({ s₂ with vm := (U.calling g mk a).vm } : State).setVm s₂.vm := rfl
      rw [e2] at this
      exact this
    obtain ⟨c₂, i₂, len₂, hc₂, hd₂, hf₂⟩ := hend
    have hW' : U.WarmedH s₂.vm := hW₂
    have hcc : c₂ = c := by
      have h1 : s₂.code? g.method = U.code? g.method := by
        rw [State.code?_eq, State.code?_eq, hW'.alike.method?]
      exact Option.some.inj (hc₂.symm.trans (h1.trans h.code))
    subst hcc
    have hlen : len₂ = len := by rw [hdg] at hd₂; cases hd₂; rfl
    subst hlen
    have hs₂ : s₂ = (({ U with heap := s₂.heap, slotsUsed := s₂.slotsUsed } : State).setVm s₂.vm).setTop { g with pc := g.pc + len₂, stack := v.toList ++ g.stack } := by
      refine e3.trans ?_
      rw [hf₂, State.calling_eq h.top, State.setFrames_setFrames, State.setTop_of_frames _ hr', hr]
      rfl
    have hsame : U.sameButNew ({ U with heap := s₂.heap, slotsUsed := s₂.slotsUsed } : State) L mc ms := by
      refine ⟨?_, q2, q3, q4, q5, q6⟩
      obtain ⟨t, ht, -⟩ := State.frames_cons hr
      show ({ U with heap := s₂.heap, slotsUsed := s₂.slotsUsed } : State) = { U.setFrames U.frames with heap := s₂.heap, slotsUsed := s₂.slotsUsed }
      rw [State.setFrames_self ht]
    subst hg
    refine Or.inl ⟨v, ⟨(({ U with heap := s₂.heap, slotsUsed := s₂.slotsUsed } : State).setVm s₂.vm), Ls ++ L, c0 + mc, s0 + ms⟩,
      ⟨X.admits, X.cas, X.clock, X.frames, X.room, X.hears, X.method, X.code, (X.here.setHeapUsed s₂.heap s₂.slotsUsed).setVm hW'.alike, X.tail, State.WarmedH.trans X.warmed hW', X.limits, X.bytes, X.same.trans (hsame.setVm s.vm)⟩,
      ⟨g, mk, s₂, L, rfl, rfl, hqc, rfl, hL, rfl, rfl⟩, ?_⟩
    show Steps p.tables e below _ ((({ U with heap := s₂.heap, slotsUsed := s₂.slotsUsed } : State).setVm s₂.vm).setTop { g with pc := g.pc + len₂, stack := v.toList ++ g.stack })
    rw [← hs₂]
    exact hsteps
  · obtain ⟨e2, q2, q3, q4, q5, q6⟩ := id hsm
    have e3 : s₂ = ({ (U.calling g mk a).setFrames s₂.frames with heap := s₂.heap, slotsUsed := s₂.slotsUsed } : State).setVm s₂.vm := by
      have : s₂ = ({ s₂ with vm := (U.calling g mk a).vm } : State).setVm s₂.vm := rfl
      rw [e2] at this
      exact this
    have hf₂ : s₂.frames = .throwing q :: .java g :: U.frames.tail := hend
    have hW' : U.WarmedH s₂.vm := hW₂
    have hs₂ : s₂ = ((({ U with heap := s₂.heap, slotsUsed := s₂.slotsUsed } : State).setVm s₂.vm).setTop g).pushFrame (.throwing q) := by
      refine e3.trans ?_
      rw [hf₂, State.calling_eq h.top, State.setFrames_setFrames, State.pushFrame, State.frames_setTop _ hr', State.setTop_of_frames _ hr', State.setFrames_setFrames, hr]
      rfl
    have hsame : U.sameButNew ({ U with heap := s₂.heap, slotsUsed := s₂.slotsUsed } : State) L mc ms := by
      refine ⟨?_, q2, q3, q4, q5, q6⟩
      obtain ⟨t, ht, -⟩ := State.frames_cons hr
      show ({ U with heap := s₂.heap, slotsUsed := s₂.slotsUsed } : State) = { U.setFrames U.frames with heap := s₂.heap, slotsUsed := s₂.slotsUsed }
      rw [State.setFrames_self ht]
    subst hg
    refine Or.inr ⟨q, ⟨(({ U with heap := s₂.heap, slotsUsed := s₂.slotsUsed } : State).setVm s₂.vm), Ls ++ L, c0 + mc, s0 + ms⟩,
      ⟨X.admits, X.cas, X.clock, X.frames, X.room, X.hears, X.method, X.code, (X.here.setHeapUsed s₂.heap s₂.slotsUsed).setVm hW'.alike, X.tail, State.WarmedH.trans X.warmed hW', X.limits, X.bytes, X.same.trans (hsame.setVm s.vm)⟩,
      ⟨g, mk, s₂, L, E, ce, rfl, rfl, hx, hce, hcv, hcl, rfl, hL, rfl, rfl⟩, ?_⟩
    show Steps p.tables e below _ (((({ U with heap := s₂.heap, slotsUsed := s₂.slotsUsed } : State).setVm s₂.vm).setTop g).pushFrame (.throwing q))
    rw [← hs₂]
    exact hsteps
end
variable {p : Program} {l : Launch} {e : Env} {R : Room} {s : State} {m : MethodId} {args : Array Value} {below : List Frame} {meth : Method} {c : Code} {T : State} {H : Heap} {locs : List Loc} {cells slots : Nat}
theorem vx_callVX (X : Stand p l e R s m args below meth c T locs cells slots) (hexec : p.tables.exec = Jvm.exec) {own C : String} {index : Nat} {y : MethodName} {bytes : ByteArray} {maxL : Nat} {ret : Option FieldType} {hh : List (Nat × Nat × Nat × Nat)}
    (hown : s.vm.findClass own = some m.cls) (hlink : (Cond.methodLink own index y).before args s = true) (hinst : (Cond.instanceMethod y).before args s = true) (hsel : (Cond.selects C y y).before args s = true)
    (hcode : (Cond.codeWith y bytes maxL ret hh).before args s = true) (hy : y.cls ≠ "java/lang/invoke/MethodHandle" ∧ y.cls ≠ "java/lang/invoke/VarHandle")
    {W9 : Nat} {Pre : Pt → Array Value → Prop} {Post : Pt → Array Value → Option Value → Pt → Prop} {PostX : Pt → Array Value → Addr → Pt → Prop} (hK : vx_Back l R p e below s args y 3 W9 Pre Post PostX)
    {b : Addr} {cellB : Cell} (hcell : T.heap[b]? = some cellB) (hobj : cellB.vm.isStatics = false) (hcls : s.vm.findClass C = some cellB.cls)
    {g : JFrame} (hg : g.method = m) (hsize : g.locals.size = c.maxLocals) {argsL rest : List Value} (hlen : ∀ sig, parseMethodDescriptor y.desc = some sig → argsL.length = sig.parameters.length)
    (hstack : g.stack = argsL.reverse ++ .ref b :: rest) (hW : 2 * g.monitorRoom + (rest.map fun v => v.category).sum ≤ W9) (hdg : decode c.code g.pc = .ok (.invokevirtual index, 3))
    (hpre : ∀ vm₁, s.WarmedH vm₁ → Pre ⟨T.setVm vm₁, locs, cells, slots⟩ (Value.ref b :: argsL).toArray) :
    (∃ (v : Option Value) (vm₁ : Vm) (B : Pt), s.WarmedH vm₁ ∧ Stand p l e R s m args below meth c B.U B.locs B.cells B.slots ∧ Post ⟨T.setVm vm₁, locs, cells, slots⟩ (Value.ref b :: argsL).toArray v B ∧
      ∀ target, Steps p.tables e below (B.U.setTop { g with pc := g.pc + 3, stack := v.toList ++ rest }) target → Steps p.tables e below (T.setTop g) target) ∨
    (∃ (q : Addr) (vm₁ : Vm) (B : Pt), s.WarmedH vm₁ ∧ Stand p l e R s m args below meth c B.U B.locs B.cells B.slots ∧ PostX ⟨T.setVm vm₁, locs, cells, slots⟩ (Value.ref b :: argsL).toArray q B ∧
      Steps p.tables e below (T.setTop g) ((B.U.setTop { g with stack := rest }).pushFrame (.throwing q))) := by
  obtain ⟨mk, methM, hnamed, hmethM, hstM, habM⟩ := Cond.instanceMethod_spec hinst
  obtain ⟨m8, methM', cM, hn8, hmethM', -, -, -, -, -, -, hsigM⟩ := Cond.codeWith_spec hcode
  cases Option.some.inj (hn8.symm.trans hnamed)
  cases hmethM.symm.trans hmethM'
  obtain ⟨c2, r2, m2, q1, q2, q3, q4, kP, hkP, hkPi⟩ := Cond.selects_spec hsel
  cases hcls.symm.trans q1
  cases (State.methodFound?_of_named hnamed hy).symm.trans q2
  cases hnamed.symm.trans q3
  have hselP : selectMethod e.platform s.vm cellB.cls mk = .method mk := by rw [Launch.admits_selectMethod X.admits]; exact q4
  obtain ⟨vm₁, X₁, hstep₁⟩ := X.invokevirtual hexec hown hlink hnamed hmethM hstM hkP hkPi hy (a := b) (cell := cellB) hcell
    (fun z h => by rw [h] at hobj; cases hobj) hselP hmethM habM hkP hkPi (g := g) hg (argsL := argsL) (rest := rest) (hlen _ hsigM) hstack hdg
  rcases hK m meth c ⟨T.setVm vm₁, locs, cells, slots⟩ { g with stack := rest } (.invokevirtual index) mk (Value.ref b :: argsL).toArray X₁ hg hsize hdg hW (X₁.named hnamed) (hpre vm₁ X₁.warmed) with ⟨v, B, X', hpost, hsteps⟩ | ⟨q, B, X', hpost, hsteps⟩
  · exact Or.inl ⟨v, vm₁, B, X₁.warmed, X', hpost, fun target h => hstep₁ _ fun acts => by rw [doInvoke_state]; exact hsteps.trans h⟩
  · exact Or.inr ⟨q, vm₁, B, X₁.warmed, X', hpost, hstep₁ _ fun acts => by rw [doInvoke_state]; exact hsteps⟩
theorem vx_callSX (X : Stand p l e R s m args below meth c T locs cells slots) (hexec : p.tables.exec = Jvm.exec) {own : String} {index : Nat} {y : MethodName} {bytes : ByteArray} {maxL : Nat} {ret : Option FieldType} {hh : List (Nat × Nat × Nat × Nat)}
    (hown : s.vm.findClass own = some m.cls) (hlink : (Cond.methodLink own index y).before args s = true) (hstat : (Cond.static y).before args s = true) (hinit : (Cond.initialized y.cls).before args s = true)
    (hcode : (Cond.codeWith y bytes maxL ret hh).before args s = true) (hy : y.cls ≠ "java/lang/invoke/MethodHandle" ∧ y.cls ≠ "java/lang/invoke/VarHandle")
    {W9 : Nat} {Pre : Pt → Array Value → Prop} {Post : Pt → Array Value → Option Value → Pt → Prop} {PostX : Pt → Array Value → Addr → Pt → Prop} (hK : vx_Back l R p e below s args y 3 W9 Pre Post PostX)
    {g : JFrame} (hg : g.method = m) (hsize : g.locals.size = c.maxLocals) {argsL rest : List Value} (hlen : ∀ sig, parseMethodDescriptor y.desc = some sig → argsL.length = sig.parameters.length)
    (hstack : g.stack = argsL.reverse ++ rest) (hW : 2 * g.monitorRoom + (rest.map fun v => v.category).sum ≤ W9) (hdg : decode c.code g.pc = .ok (.invokestatic index, 3))
    (hpre : ∀ vm₁, s.WarmedH vm₁ → Pre ⟨T.setVm vm₁, locs, cells, slots⟩ argsL.toArray) :
    (∃ (v : Option Value) (vm₁ : Vm) (B : Pt), s.WarmedH vm₁ ∧ Stand p l e R s m args below meth c B.U B.locs B.cells B.slots ∧ Post ⟨T.setVm vm₁, locs, cells, slots⟩ argsL.toArray v B ∧
      ∀ target, Steps p.tables e below (B.U.setTop { g with pc := g.pc + 3, stack := v.toList ++ rest }) target → Steps p.tables e below (T.setTop g) target) ∨
    (∃ (q : Addr) (vm₁ : Vm) (B : Pt), s.WarmedH vm₁ ∧ Stand p l e R s m args below meth c B.U B.locs B.cells B.slots ∧ PostX ⟨T.setVm vm₁, locs, cells, slots⟩ argsL.toArray q B ∧
      Steps p.tables e below (T.setTop g) ((B.U.setTop { g with stack := rest }).pushFrame (.throwing q))) := by
  obtain ⟨mk, methM, cM, hnamed, hmethM, -, -, -, -, -, -, hsigM⟩ := Cond.codeWith_spec hcode
  have hstatic : methM.isStatic = true := Cond.static_spec hnamed hmethM hstat
  obtain ⟨kP, hkP, -⟩ := className_of_methodNamed hnamed
  have hinitP : kP.init = .initialized := Cond.initialized_spec (findClass_of_methodNamed hnamed) hkP hinit
  obtain ⟨vm₁, X₁, hstep₁⟩ := X.invokestatic hexec hown hlink hnamed hmethM hstatic hkP hinitP hy (g := g) hg (argsL := argsL) (rest := rest) (hlen _ hsigM) hstack hdg
  rcases hK m meth c ⟨T.setVm vm₁, locs, cells, slots⟩ { g with stack := rest } (.invokestatic index) mk argsL.toArray X₁ hg hsize hdg hW (X₁.named hnamed) (hpre vm₁ X₁.warmed) with ⟨v, B, X', hpost, hsteps⟩ | ⟨q, B, X', hpost, hsteps⟩
  · exact Or.inl ⟨v, vm₁, B, X₁.warmed, X', hpost, fun target h => hstep₁ _ fun acts => by rw [doInvoke_state]; exact hsteps.trans h⟩
  · exact Or.inr ⟨q, vm₁, B, X₁.warmed, X', hpost, hstep₁ _ fun acts => by rw [doInvoke_state]; exact hsteps⟩
theorem vx_callVW (X : Stand p l e R s m args below meth c T locs cells slots) (hexec : p.tables.exec = Jvm.exec) {own C : String} {index : Nat} {y : MethodName} {bytes : ByteArray} {maxL : Nat} {ret : Option FieldType} {hh : List (Nat × Nat × Nat × Nat)}
    (hown : s.vm.findClass own = some m.cls) (hlink : (Cond.methodLink own index y).before args s = true) (hinst : (Cond.instanceMethod y).before args s = true) (hsel : (Cond.selects C y y).before args s = true)
    (hcode : (Cond.codeWith y bytes maxL ret hh).before args s = true) (hy : y.cls ≠ "java/lang/invoke/MethodHandle" ∧ y.cls ≠ "java/lang/invoke/VarHandle")
    {W9 : Nat} {Pre : Pt → Array Value → Prop} {Post : Pt → Array Value → Option Value → Pt → Prop} (hK : Back l R p e below s args y 3 W9 Pre Post)
    {b : Addr} {cellB : Cell} (hcell : T.heap[b]? = some cellB) (hobj : cellB.vm.isStatics = false) (hcls : s.vm.findClass C = some cellB.cls)
    {g : JFrame} (hg : g.method = m) (hsize : g.locals.size = c.maxLocals) {argsL rest : List Value} (hlen : ∀ sig, parseMethodDescriptor y.desc = some sig → argsL.length = sig.parameters.length)
    (hstack : g.stack = argsL.reverse ++ .ref b :: rest) (hW : 2 * g.monitorRoom + (rest.map fun v => v.category).sum ≤ W9) (hdg : decode c.code g.pc = .ok (.invokevirtual index, 3))
    (hpre : ∀ vm₁, s.WarmedH vm₁ → Pre ⟨T.setVm vm₁, locs, cells, slots⟩ (Value.ref b :: argsL).toArray) :
    ∃ (v : Option Value) (vm₁ : Vm) (B : Pt), s.WarmedH vm₁ ∧ Stand p l e R s m args below meth c B.U B.locs B.cells B.slots ∧ Post ⟨T.setVm vm₁, locs, cells, slots⟩ (Value.ref b :: argsL).toArray v B ∧
      ∀ target, Steps p.tables e below (B.U.setTop { g with pc := g.pc + 3, stack := v.toList ++ rest }) target → Steps p.tables e below (T.setTop g) target := by
  obtain ⟨mk, methM, hnamed, hmethM, hstM, habM⟩ := Cond.instanceMethod_spec hinst
  obtain ⟨m8, methM', cM, hn8, hmethM', -, -, -, -, -, -, hsigM⟩ := Cond.codeWith_spec hcode
  cases Option.some.inj (hn8.symm.trans hnamed)
  cases hmethM.symm.trans hmethM'
  obtain ⟨c2, r2, m2, q1, q2, q3, q4, kP, hkP, hkPi⟩ := Cond.selects_spec hsel
  cases hcls.symm.trans q1
  cases (State.methodFound?_of_named hnamed hy).symm.trans q2
  cases hnamed.symm.trans q3
  have hselP : selectMethod e.platform s.vm cellB.cls mk = .method mk := by rw [Launch.admits_selectMethod X.admits]; exact q4
  obtain ⟨vm₁, X₁, hstep₁⟩ := X.invokevirtual hexec hown hlink hnamed hmethM hstM hkP hkPi hy (a := b) (cell := cellB) hcell
    (fun z h => by rw [h] at hobj; cases hobj) hselP hmethM habM hkP hkPi (g := g) hg (argsL := argsL) (rest := rest) (hlen _ hsigM) hstack hdg
  obtain ⟨v, B, X', hpost, hsteps⟩ := hK m meth c ⟨T.setVm vm₁, locs, cells, slots⟩ { g with stack := rest } (.invokevirtual index) mk (Value.ref b :: argsL).toArray X₁ hg hsize hdg hW (X₁.named hnamed) (hpre vm₁ X₁.warmed)
  exact ⟨v, vm₁, B, X₁.warmed, X', hpost, fun target h => hstep₁ _ fun acts => by rw [doInvoke_state]; exact hsteps.trans h⟩
abbrev vx_CVW (R : Room) (s : State) (args : Array Value) (own C : String) (index : Nat) (y : MethodName) (bytes : ByteArray) (maxL : Nat) (ret : Option FieldType) (hh : List (Nat × Nat × Nat × Nat)) (ws : List Cond) (rm : Room) (mc ms n : Nat) : Prop :=
  (rm.cells = mc ∧ rm.slots = ms ∧ rm.frames + 1 ≤ R.frames ∧ 8 + (maxL + 11) + rm.locals ≤ R.locals ∧ (∀ w ∈ ws, ∀ (a' : Array Value) (U : State), s.WarmedH U.vm → w.before a' U = true) ∧ Cond.codeWith y bytes maxL ret hh ∈ ws) ∧
  (Cond.codeWith y bytes maxL ret hh).before args s = true ∧ (Cond.initialized y.cls).before args s = true ∧ (y.cls ≠ "java/lang/invoke/MethodHandle" ∧ y.cls ≠ "java/lang/invoke/VarHandle") ∧
  (∀ sig, parseMethodDescriptor y.desc = some sig → n = sig.parameters.length) ∧ (Cond.methodLink own index y).before args s = true ∧ (Cond.instanceMethod y).before args s = true ∧ (Cond.selects C y y).before args s = true
theorem vx_cwVW {own C : String} {index maxL mc ms : Nat} {y : MethodName} {bytes : ByteArray} {ret : Option FieldType} {hh : List (Nat × Nat × Nat × Nat)} {Ts ws ws' : List Cond} {rm : Room} (n : Nat) (ht : ∀ w ∈ Ts, w.before args s = true) (hT : GoodIn Ts (wsV own index C y ws)) (hw : ws = Cond.codeWith y bytes maxL ret hh :: ws') (hrc : rm.cells = mc) (hrs : rm.slots = ms)
    (hd : y.cls = C ∧ y.cls ≠ "java/lang/invoke/MethodHandle" ∧ y.cls ≠ "java/lang/invoke/VarHandle" ∧ (parseMethodDescriptor y.desc).map (fun d => d.parameters.length) = some n) (hR : rm.frames + 1 ≤ R.frames ∧ 8 + (maxL + 11) + rm.locals ≤ R.locals) :
    vx_CVW R s args own C index y bytes maxL ret hh ws rm mc ms n := by
  obtain ⟨hC, hd⟩ := hd
  subst hC
  have ok : ∀ w ∈ wsV own index y.cls y ws, w.before args s = true := fun w h => ht w (hT w h).1
  have hG : GoodIn Ts ws := fun w h => hT w (by unfold wsV; exact List.mem_append_right _ h)
  have hc : Cond.codeWith y bytes maxL ret hh ∈ ws := by rw [hw]; exact List.mem_cons_self
  refine ⟨⟨hrc, hrs, hR.1, hR.2, pay_in ht hG, hc⟩, ht _ (hG _ hc).1, ok _ (by simp [wsV]), ⟨hd.1, hd.2.1⟩, fun sig h => ?_, ok _ (by simp [wsV]), ok _ (by simp [wsV]), ok _ (by simp [wsV])⟩
  have h2 := hd.2.2
  rw [h] at h2
  exact (Option.some.inj h2).symm
theorem vx_runVW {y : MethodName} {bytes cc : ByteArray} {maxL nL mc ms n index : Nat} {ret : Option FieldType} {hh : List (Nat × Nat × Nat × Nat)} {ws : List Cond} {rm : Room} {Pc : Array Value → State → Prop} {Qc : Array Value → State → Outcome → State → Prop} {free : Addr → Prop} {Ts : List Cond} {own C : String} {b : Addr} {As rest : List Value} {g : JFrame}
    (S : CallFix p m c cc nL s args Ts own) (hM : Met l y ws rm Pc Qc mc ms free) (cw : vx_CVW R s args own C index y bytes maxL ret hh ws rm mc ms n) (hp : PreV s H C b Pc As)
    (hg : g.method = m) (hn : As.length = n) (hsize : g.locals.size = nL) (hstack : g.stack = As.reverse ++ .ref b :: rest) (hW : 2 * g.monitorRoom + (rest.map fun v => v.category).sum ≤ 8) (hdg : decode cc g.pc = .ok (.invokevirtual index, 3)) (hf : cells + mc ≤ R.cells ∧ slots + ms ≤ R.slots) :
    va_Run p l e R s m args below meth c H locs cells slots mc ms g rest (Qc (Value.ref b :: As).toArray) free := by
  obtain ⟨⟨hrc, hrs, hfr, hlo, hws, hcw⟩, hcode, hini, hy, hlen, hl, hin, hse⟩ := cw
  have hK : Back l R p e below s args y 3 8 (PreOf R mc ms Pc) (PostOf Qc mc ms free) := va_backW (hh := hh) (bytes := bytes) (maxL := maxL) (ret := ret) hM hp.1 hrc hrs hfr hlo hws hcw (fun a' U hW => word_at hW (Or.inl (by first | rfl | simp [Cond.onTables, Cond.keeps, Cond.steady])) hini)
  obtain ⟨hx, hb, hml, ho, -⟩ := S
  obtain ⟨-, ⟨cellB, hcB, hoB, hclB⟩, hPc⟩ := hp
  intro T hT X
  obtain ⟨v, vm₁, ⟨U', l2, c2, s2⟩, hW₁, X', ⟨g', mk, t, L, e1, e2, hq, h1, hL, h2, h3⟩, st⟩ := vx_callVW X hx (C := C) (hh := hh) (bytes := bytes) (maxL := maxL) (ret := ret) ho hl hin hse hcode hy hK (by rw [hT]; exact hcB) hoB hclB hg (hsize.trans hml.symm) (argsL := As) (rest := rest) (fun sig h => hn.trans (hlen sig h)) hstack hW (by rw [hb]; exact hdg)
    (fun vm₁ hW₁ => ⟨hf.1, hf.2, hPc (T.setVm vm₁) hT hW₁⟩)
  dsimp only [Pt.U, Pt.locs, Pt.cells, Pt.slots] at X' e1 e2 h1 h2 h3 st
  subst h1; subst h2; subst h3
  exact ⟨v, (T.setVm vm₁).calling g' mk (Value.ref b :: As).toArray, t, U', L, hT, X', hL, e1, e2, hq, st⟩
section
variable {y : MethodName} {bytes cc : ByteArray} {maxL nL mc ms n index : Nat} {ret : Option FieldType} {ws : List Cond} {rm : Room} {Pc : Array Value → State → Prop} {Qc : Array Value → State → Outcome → State → Prop} {XC : String → State → State → Prop} {free : Addr → Prop} {Ts : List Cond} {own C : String} {b : Addr} {As rest : List Value} {g : JFrame}
theorem vx_runVX {hh : List (Nat × Nat × Nat × Nat)} (S : CallFix p m c cc nL s args Ts own) (hM : vx_Met l y ws rm Pc Qc XC mc ms free) (cw : vx_CVW R s args own C index y bytes maxL ret hh ws rm mc ms n) (hp : PreV s H C b Pc As)
    (hg : g.method = m) (hn : As.length = n) (hsize : g.locals.size = nL) (hstack : g.stack = As.reverse ++ .ref b :: rest) (hW : 2 * g.monitorRoom + (rest.map fun v => v.category).sum ≤ 8) (hdg : decode cc g.pc = .ok (.invokevirtual index, 3)) (hf : cells + mc ≤ R.cells ∧ slots + ms ≤ R.slots) :
    vx_Run p l e R s m args below meth c H locs cells slots mc ms g rest (Qc (Value.ref b :: As).toArray) XC free := by
  obtain ⟨⟨hrc, hrs, hfr, hlo, hws, hcw⟩, hcode, hini, hy, hlen, hl, hin, hse⟩ := cw
  have hK : vx_Back l R p e below s args y 3 8 (PreOf R mc ms Pc) (PostOf Qc mc ms free) (vx_Post XC mc ms free) := vx_backW (hh := hh) (bytes := bytes) (maxL := maxL) (ret := ret) hM hp.1 hrc hrs hfr hlo hws hcw (fun a' U hW => word_at hW (Or.inl (by first | rfl | simp [Cond.onTables, Cond.keeps, Cond.steady])) hini)
  obtain ⟨hx, hb, hml, ho, -⟩ := S
  obtain ⟨-, ⟨cellB, hcB, hoB, hclB⟩, hPc⟩ := hp
  intro T hT X
  rcases vx_callVX X hx (C := C) (hh := hh) (bytes := bytes) (maxL := maxL) (ret := ret) ho hl hin hse hcode hy hK (by rw [hT]; exact hcB) hoB hclB hg (hsize.trans hml.symm) (argsL := As) (rest := rest) (fun sig h => hn.trans (hlen sig h)) hstack hW (by rw [hb]; exact hdg)
    (fun vm₁ hW₁ => ⟨hf.1, hf.2, hPc (T.setVm vm₁) hT hW₁⟩) with ⟨v, vm₁, ⟨U', l2, c2, s2⟩, hW₁, X', ⟨g', mk, t, L, e1, e2, hq, h1, hL, h2, h3⟩, st⟩ | ⟨q, vm₁, ⟨U', l2, c2, s2⟩, hW₁, X', ⟨g', mk, t, L, E, ce, e1, e2, hq, hce, hcv, hcl, h1, hL, h2, h3⟩, st⟩
  · dsimp only [Pt.U, Pt.locs, Pt.cells, Pt.slots] at X' e1 e2 h1 h2 h3 st
    subst h1; subst h2; subst h3
    exact Or.inl ⟨v, (T.setVm vm₁).calling g' mk (Value.ref b :: As).toArray, t, U', L, hT, X', hL, e1, e2, hq, st⟩
  · dsimp only [Pt.U, Pt.locs, Pt.cells, Pt.slots] at X' e1 e2 h1 h2 h3 st hcl
    subst h1; subst h2; subst h3
    exact Or.inr ⟨q, (T.setVm vm₁).calling g' mk (Value.ref b :: As).toArray, t, U', L, E, ce, hT, X', hL, e1, e2, hq, hce, hcv, vx_cls hW₁ hcl, st⟩
theorem vx_runSX {hh : List (Nat × Nat × Nat × Nat)} (S : CallFix p m c cc nL s args Ts own) (hM : vx_Met l y ws rm Pc Qc XC mc ms free) (cw : vx_CSW R s args own index y bytes maxL ret hh ws rm mc ms n) (hp : PreS s H Pc As)
    (hg : g.method = m) (hn : As.length = n) (hsize : g.locals.size = nL) (hstack : g.stack = As.reverse ++ rest) (hW : 2 * g.monitorRoom + (rest.map fun v => v.category).sum ≤ 8) (hdg : decode cc g.pc = .ok (.invokestatic index, 3)) (hf : cells + mc ≤ R.cells ∧ slots + ms ≤ R.slots) :
    vx_Run p l e R s m args below meth c H locs cells slots mc ms g rest (Qc As.toArray) XC free := by
  obtain ⟨⟨hrc, hrs, hfr, hlo, hws, hcw⟩, hcode, hini, hy, hlen, hl, hstt⟩ := cw
  have hK : vx_Back l R p e below s args y 3 8 (PreOf R mc ms Pc) (PostOf Qc mc ms free) (vx_Post XC mc ms free) := vx_backW (hh := hh) (bytes := bytes) (maxL := maxL) (ret := ret) hM hp.1 hrc hrs hfr hlo hws hcw (fun a' U hW => word_at hW (Or.inl (by first | rfl | simp [Cond.onTables, Cond.keeps, Cond.steady])) hini)
  obtain ⟨hx, hb, hml, ho, -⟩ := S
  intro T hT X
  rcases vx_callSX X hx (hh := hh) (bytes := bytes) (maxL := maxL) (ret := ret) ho hl hstt hini hcode hy hK hg (hsize.trans hml.symm) (argsL := As) (rest := rest) (fun sig h => hn.trans (hlen sig h)) hstack hW (by rw [hb]; exact hdg)
    (fun vm₁ hW₁ => ⟨hf.1, hf.2, hp.2 (T.setVm vm₁) hT hW₁⟩) with ⟨v, vm₁, ⟨U', l2, c2, s2⟩, hW₁, X', ⟨g', mk, t, L, e1, e2, hq, h1, hL, h2, h3⟩, st⟩ | ⟨q, vm₁, ⟨U', l2, c2, s2⟩, hW₁, X', ⟨g', mk, t, L, E, ce, e1, e2, hq, hce, hcv, hcl, h1, hL, h2, h3⟩, st⟩
  · dsimp only [Pt.U, Pt.locs, Pt.cells, Pt.slots] at X' e1 e2 h1 h2 h3 st
    subst h1; subst h2; subst h3
    exact Or.inl ⟨v, (T.setVm vm₁).calling g' mk As.toArray, t, U', L, hT, X', hL, e1, e2, hq, st⟩
  · dsimp only [Pt.U, Pt.locs, Pt.cells, Pt.slots] at X' e1 e2 h1 h2 h3 st hcl
    subst h1; subst h2; subst h3
    exact Or.inr ⟨q, (T.setVm vm₁).calling g' mk As.toArray, t, U', L, E, ce, hT, X', hL, e1, e2, hq, hce, hcv, vx_cls hW₁ hcl, st⟩
end
end VXH
theorem vx_ofWH {l : Launch} {y : MethodName} {ws ws' : List Cond} {rm : Room} {Pc : Array Value → State → Prop} {Qc : Array Value → State → Outcome → State → Prop} {XC : String → State → State → Prop} {mc ms : Nat} {free : Addr → Prop} {cc : ByteArray} {maxL : Nat} {ret : Option FieldType} {hh : List (Nat × Nat × Nat × Nat)}
    (hy : plainName y.cls = true) (hw : ws = Cond.codeWith y cc maxL ret hh :: ws')
    (body : ∀ p e s m args below meth c s₁, BodyLoose p l y (headSpec ws rm) cc maxL ret e s m args below meth c s₁ → c.maxLocals = maxL → Pc args s →
      W p l e (headSpec ws rm).room s m args below meth c s.heap [] 0 0 (vx_MQ below Qc XC args s mc ms free) (entryFrame m args maxL)) : vx_Met l y ws rm Pc Qc XC mc ms free := by
  refine MetFree.of_bodyS (code := cc) (maxLocals := maxL) (ret := ret) hy ?_ ?_
  · intro args s m h hn
    obtain ⟨m9, meth, c, hn9, h1, h2, h3, h4, -, h5, h6, -⟩ := Cond.codeWith_spec (atoms_spec (ws := ws) h _ (by rw [hw]; exact List.mem_cons_self))
    cases hn.symm.trans hn9
    exact ⟨meth, c, h1, h2, h3, h4, h5, h6⟩
  · intro p e s m args below meth c s₁ B hml hP _
    have hh0 : s₁.heap = s.heap := by rw [B.state]; rfl
    obtain ⟨t, a1, o, b1, b2, b3⟩ := body p e s m args below meth c s₁ B hml hP s₁ hh0 (Stand.of_body B)
    exact ⟨t, o, a1, b1, b2, b3⟩
/-! ===== END ===== -/

/-! ===== BEGIN what the machine throws by itself, no traces kept ===== -/
section VXM
set_option maxHeartbeats 1000000 in
/-- the machine throws cls with the message text, no traces kept: from its note over the frame g to 'throwing' over the same frame (follows the proofs of Stand.vmThrowsMessage, Shelf/KitTracedVmS.lean, and Stand.throwsMessageColdBareV, StandMessageColdV.lean, without the step out of the frame) -/
theorem vx_vmAt {p : Program} {l : Launch} {e : Env} {R : Room} {s : State} {m₀ : MethodId} {args : Array Value} {below : List Frame} {meth : Method} {c : Code} {W : State} {locs : List Loc} {cells slots : Nat}
    (X : Stand p l e R s m₀ args below meth c W locs cells slots) (hexec : p.tables.exec = Jvm.exec) (htr : e.platform.stackTraces = false) {cls : String} {names : List String} {text : String}
    (hcls : Bundle.fit cls = true) (hnames : ∀ n ∈ names, Bundle.fit n = true) (hsoe : (cls == "java/lang/StackOverflowError") = false) (hoom : (cls == "java/lang/OutOfMemoryError") = false)
    (h : ∀ a ∈ Bundle.messageArmAtoms cls names, a.before args s = true)
    (hlocs : ∀ x ∈ locs, ∀ cell, s.heap[x.base]? = some cell → cell.vm.isStatics = false)
    (htext : (text == notModelled) = false) (hlimit : ¬ (stringBytes (stringToUtf16 text)).size > e.platform.arrayLengthLimit) (hheap : ¬ (stringBytes (stringToUtf16 text)).size * componentBytes .byte > e.platform.maxHeapBytes)
    {g : JFrame} (hg : g.method = m₀) (hsize : g.locals.size = c.maxLocals)
    (hRframes : names.length + 4 < R.frames) (hRlocals : 2 * g.monitorRoom + (g.stack.map fun v => v.category).sum + 10240 ≤ R.locals) (hshort : 13 * names.length + 55 ≤ 10240)
    (hRcells : cells + 3 ≤ R.cells) (hRslots : slots + ((stringBytes (stringToUtf16 text)).size + 4 + 6) ≤ R.slots) (hlocks : meth.locks = false) :
    ∃ (S : State) (q : Addr) (ce : Cell), (∀ target, Steps p.tables e below ((S.setTop g).pushFrame (.throwing q)) target → Steps p.tables e below ((W.setTop g).pushFrame (.throwNew cls (some text) none)) target) ∧
      Stand p l e R s m₀ args below meth c S locs (cells + 3) (slots + ((stringBytes (stringToUtf16 text)).size + 4 + 6)) ∧ S.heap[q]? = some ce ∧ s.vm.findClass cls = some ce.cls ∧ ce.vm = .none := by
  have howns : e.platform.frameOwnsMonitors = true := by rw [X.admits.platform]
  have hfin : e.platform.finalization = false := by rw [X.admits.platform]
  have hpl : e.platform.magicAccessors = ({} : Platform).magicAccessors := by rw [X.admits.platform]
  have a : ∀ x, x ∈ Bundle.messageArmAtoms cls names → x.holds args s none s [] = true := fun x hx => h x hx
  obtain ⟨T, Z0, L, -, Y⟩ := ThrowableC.of_atoms (args := args) howns hfin hpl (fun x hx => h x (by simp [Bundle.messageArmAtoms, hx]))
  obtain ⟨Z, M, LZ, LM, hnZ⟩ := Init0T.ofS_atoms (args := args) hpl L Y (fun x hx => h x (by simp [Bundle.messageArmAtoms, hx]))
  obtain ⟨P1, Ps, hlen, L1, hL, hP1m, hlink1, hlink⟩ := Bundle.chainS (args := args) hpl hnZ names cls hcls hnames (fun x hx => h x (by simp [Bundle.messageArmAtoms, hx]))
  obtain ⟨Zs, LZs, hn4, hfitv, hfitc⟩ := StringT.of_atoms (args := args) (fun x hx => h x (by simp [Bundle.messageArmAtoms, hx]))
  have hfound : s.vm.findClass cls = some P1.m.cls := findClass_of_methodNamed hP1m
  obtain ⟨c1, kX, hc1, hk, hord, -, -, hn6⟩ := Cond.instantiable_spec (a (.instantiable cls 6) (by simp [Bundle.messageArmAtoms]))
  cases Option.some.inj (hc1.symm.trans hfound)
  have hinit := Cond.initialized_spec hfound hk (a (.initialized cls) (by simp [Bundle.messageArmAtoms]))
  have hctor : kX.findMethod "<init>" "(Ljava/lang/String;)V" = some P1.m.idx := findMethod_of_methodNamed hP1m hk
  have hsel0 : selectMethod e.platform s.vm P1.m.cls T.fill0 = .method T.fill0 := by
    obtain ⟨c2, r2, m2, q1, q2, q3, q4, -⟩ := Cond.selects_spec (a (.selects cls Bundle.tFill0 Bundle.tFill0) (by simp [Bundle.messageArmAtoms]))
    cases Option.some.inj (q1.symm.trans hfound)
    cases Option.some.inj (q2.symm.trans (State.methodFound?_of_named Y.fill0 (by decide)))
    cases Option.some.inj (q3.symm.trans Y.fill0)
    rw [Launch.admits_selectMethod X.admits]; exact q4
  have hselF : selectMethod e.platform s.vm P1.m.cls T.fill = .method T.fill := by
    obtain ⟨c2, r2, m2, q1, q2, q3, q4, -⟩ := Cond.selects_spec (a (.selects cls Bundle.tFill Bundle.tFill) (by simp [Bundle.messageArmAtoms]))
    cases Option.some.inj (q1.symm.trans hfound)
    cases Option.some.inj (q2.symm.trans (State.methodFound?_of_named Y.fill (by decide)))
    cases Option.some.inj (q3.symm.trans Y.fill)
    rw [Launch.admits_selectMethod X.admits]; exact q4
  obtain ⟨cellS0, hcS0, hiss⟩ := Y.statics
  obtain ⟨u0, hu0⟩ := Cond.staticRefV Y.unassigned L.unassignedStatic L.statics hcS0 hiss (a (.isRef (.static Bundle.tN "UNASSIGNED_STACK" Bundle.steD)) (by simp [Bundle.messageArmAtoms]))
  obtain ⟨sen, hsen⟩ := Cond.staticRefV Y.sentinel L.sentinelStatic L.statics hcS0 hiss (a (.isRef (.static Bundle.tN "SUPPRESSED_SENTINEL" Bundle.listD)) (by simp [Bundle.messageArmAtoms]))
  obtain ⟨ci198, i198, fB, hk198, hg198, ha198, hsB, -, hnB, htB, hffB⟩ := Cond.ownField (t := .object "java/lang/Object") Y.found L.cls (by decide +kernel) (a (.fieldLink Bundle.tN 198 Bundle.tN "backtrace" "Ljava/lang/Object;") (by simp [Bundle.messageArmAtoms])) (a (.lays Bundle.tN Bundle.tN "backtrace" "Ljava/lang/Object;") (by simp [Bundle.messageArmAtoms])) e.platform hpl
  obtain ⟨cellS, hcS', heS, -, hkeep⟩ := X.same.2.2.2.2.2 T.aS cellS0 hcS0
  have hcellS : W.heap[T.aS]? = some cellS := hcS'
  have hout' : ∀ i, (⟨T.aS, i⟩ : Loc) ∉ locs := fun i hmem => by
    have := hlocs _ hmem cellS0 hcS0
    rw [hiss] at this; cases this
  have hknownS : cellS.vm ≠ .unknown := by
    rw [heS]; intro hu
    rw [show cellS0.vm = .unknown from hu] at hiss
    cases hiss
  have hvU : cellS.slots[T.fUnassigned.slot]? = some u0.v := by rw [hkeep _ (hout' _)]; exact hu0
  have hvSen : cellS.slots[T.fSentinel.slot]? = some sen.v := by rw [hkeep _ (hout' _)]; exact hsen
  obtain ⟨iM, hffM⟩ := Y.msg
  obtain ⟨tyC, dC, hdC, hdnC⟩ := Cond.laysAt hfound hk Y.cause (a (.lays cls Bundle.tN "cause" "Ljava/lang/Throwable;") (by simp [Bundle.messageArmAtoms]))
  obtain ⟨tyS, dS, hdS, hdnS⟩ := Cond.laysAt hfound hk Y.stack (a (.lays cls Bundle.tN "stackTrace" Bundle.steD) (by simp [Bundle.messageArmAtoms]))
  obtain ⟨tyP, dP, hdP, hdnP⟩ := Cond.laysAt hfound hk Y.supp (a (.lays cls Bundle.tN "suppressedExceptions" Bundle.listD) (by simp [Bundle.messageArmAtoms]))
  obtain ⟨tyM, dM, hdM, hdnM⟩ := Cond.laysAt hfound hk hffM (a (.lays cls Bundle.tN "detailMessage" "Ljava/lang/String;") (by simp [Bundle.messageArmAtoms]))
  obtain ⟨tyB, dB, hdB, hdnB⟩ := Cond.laysAt hfound hk hffB (a (.lays cls Bundle.tN "backtrace" "Ljava/lang/Object;") (by simp [Bundle.messageArmAtoms]))
  have bC := Cond.laysApart hdB hdC hdnB hdnC (by rw [hnB, Y.causeName]; decide)
  have bS := Cond.laysApart hdB hdS hdnB hdnS (by rw [hnB, Y.stackName]; decide)
  have bP := Cond.laysApart hdB hdP hdnB hdnP (by rw [hnB, Y.suppName]; decide)
  have hbk : ((preparedCellV T.toThrowableT (freshCell P1.m.cls kX) (W.heap.size + 2) u0 sen).withEntry W.cur).slots[fB.slot]? = some .null := by
    have := fresh_default (c := P1.m.cls) tyB
    rw [htB] at this
    simpa [preparedCellV, Cell.setSlot, Cell.withEntry, Array.getElem?_setIfInBounds, bC, bS, bP, bC.symm, bS.symm, bP.symm, defaultValue] using this
  have tkC := Takes.of_laid (v := .ref (W.heap.size + 2)) hk hord tyC (by rw [Y.causeType]; rfl)
  have tkS := Takes.of_laid (v := u0.v) hk hord tyS (by rw [Y.stackType]; exact fits_refV_array _ u0)
  have tkP := Takes.of_laid (v := sen.v) hk hord tyP (by rw [Y.suppType]; exact fits_refV_object _ sen)
  have tkM := Takes.of_laid (v := .ref (W.heap.size + 1)) hk hord tyM (by rw [Y.msgType]; rfl)
  have hskip : SkipFacts T e.platform s (fun u => u) u0 ((preparedCellV T.toThrowableT (freshCell P1.m.cls kX) (W.heap.size + 2) u0 sen).withEntry W.cur) := ⟨{ ci198 := ci198, i198 := i198, fBack := fB }, ⟨hk198, hg198, ha198, hsB⟩, hbk, fun _ _ => rfl⟩
  have h0 : At W g.method c below := by rw [hg]; exact X.here
  obtain ⟨hbeyond, hfreeW⟩ := X.vmMayThrow hsize (.throwNew cls (some text) none) (fun f hf => by cases hf) rfl hRlocals
  have hfr' : W.frames.length + Ps.length + 4 < (e.platform.stackLimits W.me).1 := by have := X.framesAbove hRframes; omega
  have hwd' : (stackUse (.java g :: W.frames.tail)).2 + 13 * Ps.length + 55 ≤ (e.platform.stackLimits W.me).2 := by have := X.stackAbove hsize (K := 13 * Ps.length + 55) (by omega); omega
  have hslots : W.slotsUsed + (stringBytes (stringToUtf16 text)).size + Zs.kS.instanceTypes.size + kX.instanceTypes.size ≤ e.platform.maxSlots := by
    have := X.slotsAbove hRslots
    rw [hn4, hn6]
    omega
  obtain ⟨vm', hW', st⟩ := Steps.vmThrowsMessageColdByV p (s₀ := s) (S := W) (g := g) h0 hexec T L Z LZ M LM X.warmed (t := W.cur) rfl Zs LZs P1 L1 Ps hL hlink1 hlink hsoe hoom hfound hk hinit hord hctor
    (Launch.admits_hotImplicitExceptions X.admits) hbeyond hfreeW htext hlimit hheap (X.cellsAbove hRcells) hslots (hfitv _) (hfitc _)
    (Nn := fun u => u) heapOnly_id (fun _ _ => rfl) (fun _ => rfl) (fun u x y => setCell_twice _ _ _ _) (fun _ => Nat.le_refl _) (cN := ((preparedCellV T.toThrowableT (freshCell P1.m.cls kX) (W.heap.size + 2) u0 sen).withEntry W.cur))
    hsel0 hcellS hknownS hvU tkS (fun _ hu => hu) (fun _ hu => hu) rfl rfl rfl (by simp [preparedCellV, Cell.setSlot, Cell.withEntry]) hskip (fun _ _ hA hW _ hroom _ hrest => L.nativeOff p htr hA hW hroom hrest) hselF hvSen tkC tkP tkM Y.objLocals rfl hfr' hwd'
  rw [plainBareV_eq T.toThrowableT (W.heap.size + 2) u0 sen (.ref (W.heap.size + 1)) W.cur rfl rfl] at st
  obtain ⟨-, -, w3, w4, -, -, -⟩ := withThrown_facts e.platform W Zs text P1.m.cls kX
  have X3 := ((X.pushed (bytesOf Zs.cB (stringToUtf16 text))).pushed (stringAt Zs.cS Zs.kS Zs.fv Zs.fc (stringToUtf16 text) W.heap.size)).pushed (freshCell P1.m.cls kX)
  rw [← withString_eq] at X3
  have X4 := X3.noted hW'
  have ha : (W.heap.size + 2) < ((withThrown W Zs text P1.m.cls kX).setVm vm').heap.size := by show _ < (withThrown W Zs text P1.m.cls kX).heap.size; rw [w3]; omega
  have hcell : ((withThrown W Zs text P1.m.cls kX).setVm vm').heap[(W.heap.size + 2)]? = some (freshCell P1.m.cls kX) := w4
  have X5 := ((((X4.stored hcell T.fCause.slot (.ref (W.heap.size + 2))).storedAgain ha T.fStack.slot u0.v).storedAgain ha T.fSupp.slot sen.v).storedAgain ha T.fStack.slot u0.v).storedAgain ha T.fMsg.slot (.ref (W.heap.size + 1))
  obtain ⟨g₁, hfrM⟩ := X5.frames_eq
  have hU : ((((withThrown W Zs text P1.m.cls kX).setVm vm').setCell (W.heap.size + 2) (plainBareV T.toThrowableT (freshCell P1.m.cls kX) (W.heap.size + 2) u0 sen (.ref (W.heap.size + 1)))).setTop g).pushFrame (.throwing (W.heap.size + 2)) = (((withThrown W Zs text P1.m.cls kX).setVm vm').setCell (W.heap.size + 2) (plainBareV T.toThrowableT (freshCell P1.m.cls kX) (W.heap.size + 2) u0 sen (.ref (W.heap.size + 1)))).setFrames (.throwing (W.heap.size + 2) :: .java g :: below) := by
    rw [State.pushFrame, State.frames_setTop _ hfrM, State.setTop_of_frames _ hfrM, State.setFrames_setFrames]
  have b1 : (bytesOf Zs.cB (stringToUtf16 text)).slots.size = (stringBytes (stringToUtf16 text)).size := by
    rw [(Cell.writeAll_facts _ _).2.2]; simp [bytes0]
  have b2 : (stringAt Zs.cS Zs.kS Zs.fv Zs.fc (stringToUtf16 text) W.heap.size).slots.size = 4 := by simp [string0, Cell.setSlot, hn4]
  have b3 : (freshCell P1.m.cls kX).slots.size = 6 := by simp [hn6]
  rw [b1, b2, b3] at X5
  have e9 : slots + (stringBytes (stringToUtf16 text)).size + 4 + 6 = slots + ((stringBytes (stringToUtf16 text)).size + 4 + 6) := by omega
  rw [e9] at X5
  simp only [List.append_assoc, List.cons_append, List.nil_append] at X5
  refine ⟨((withThrown W Zs text P1.m.cls kX).setVm vm').setCell (W.heap.size + 2) (plainBareV T.toThrowableT (freshCell P1.m.cls kX) (W.heap.size + 2) u0 sen (.ref (W.heap.size + 1))), W.heap.size + 2, _, fun target ht => st _ (by rw [X.tail, ← hU]; exact ht),
    X5.forget (fun y hy => ?_), heapAt_setCell_self _ ha, hfound, rfl⟩
  simp only [List.mem_cons, List.not_mem_nil, or_false] at hy
  have hge : s.heap.size ≤ W.heap.size := X.same.2.1
  rcases hy with rfl | rfl | rfl | rfl | rfl <;> exact Nat.le_trans hge (Nat.le_add_right _ 2)
set_option maxHeartbeats 1000000 in
/-- the machine throws NullPointerException, no traces kept: from its note over the frame g to 'throwing' over the same frame (follows the proof of Stand.vmThrowsNpe, Shelf42/KT2.lean; throwsNpeColdBareVAt, Shelf42/NT91.lean, called) -/
theorem vx_npeAt {p : Program} {l : Launch} {e : Env} {R : Room} {s : State} {m₀ : MethodId} {args : Array Value} {below : List Frame} {meth : Method} {c : Code} {W : State} {locs : List Loc} {cells slots : Nat}
    (X : Stand p l e R s m₀ args below meth c W locs cells slots) (hexec : p.tables.exec = Jvm.exec) (htr : e.platform.stackTraces = false) {n : Nat}
    (h : ∀ a ∈ Bundle.npeArmAtoms n, a.before args s = true)
    (hlocs : ∀ x ∈ locs, ∀ cell, s.heap[x.base]? = some cell → cell.vm.isStatics = false)
    {g : JFrame} (hg : g.method = m₀) (hsize : g.locals.size = c.maxLocals)
    (hRframes : 7 < R.frames) (hRlocals : 2 * g.monitorRoom + (g.stack.map fun v => v.category).sum + 10240 ≤ R.locals)
    (hRcells : cells + 1 ≤ R.cells) (hRslots : slots + n ≤ R.slots) (hlocks : meth.locks = false) :
    ∃ (S : State) (q : Addr) (ce : Cell), (∀ target, Steps p.tables e below ((S.setTop g).pushFrame (.throwing q)) target → Steps p.tables e below ((W.setTop g).pushFrame (.throwNew "java/lang/NullPointerException" none none)) target) ∧
      Stand p l e R s m₀ args below meth c S locs (cells + 1) (slots + n) ∧ S.heap[q]? = some ce ∧ s.vm.findClass "java/lang/NullPointerException" = some ce.cls ∧ ce.vm = .none := by
  have howns : e.platform.frameOwnsMonitors = true := by rw [X.admits.platform]
  have hfin : e.platform.finalization = false := by rw [X.admits.platform]
  have hpl : e.platform.magicAccessors = ({} : Platform).magicAccessors := by rw [X.admits.platform]
  have hpl2 : e.platform.arrayCloneIsPublic = true := by rw [X.admits.platform]
  have a' : ∀ x, x ∈ Bundle.npeArmAtoms n → x.holds args s none s [] = true := fun x hx => h x hx
  obtain ⟨T, Z, L, LZ, Y⟩ := ThrowableC.of_atoms (args := args) howns hfin hpl (fun x hx => h x (by simp [Bundle.npeArmAtoms, hx]))
  obtain ⟨N, LN, hcN, hnNF, hordN, hffS⟩ := NpeC.of_atoms (args := args) hpl hpl2 L Y (fun x hx => h x (by simp [Bundle.npeArmAtoms, hx]))
  obtain ⟨P1, L1, hP1m, hP1s⟩ := PassC.of_atoms (args := args) (s := s) hpl (X := Bundle.nN) (Y := Bundle.rN) (by decide) (by decide) LibCode.NullPointerException.Init0.at_0 LibCode.NullPointerException.Init0.at_1 LibCode.NullPointerException.Init0.at_4 (fun x hx => h x (by simp [Bundle.npeArmAtoms, hx]))
  obtain ⟨PR, LR, hPRm, hPRs⟩ := PassC.of_atoms (args := args) (s := s) hpl (X := Bundle.rN) (Y := Bundle.eN) (by decide) (by decide) LibCode.RuntimeException.Init0.at_0 LibCode.RuntimeException.Init0.at_1 LibCode.RuntimeException.Init0.at_4 (fun x hx => h x (by simp [Bundle.npeArmAtoms, hx]))
  obtain ⟨PE, LEx, hPEm, hPEs⟩ := PassC.of_atoms (args := args) (s := s) hpl (X := Bundle.eN) (Y := Bundle.tN) (by decide) (by decide) LibCode.Exception.Init0.at_0 LibCode.Exception.Init0.at_1 LibCode.Exception.Init0.at_4 (fun x hx => h x (by simp [Bundle.npeArmAtoms, hx]))
  have hfound : s.vm.findClass Bundle.nN = some P1.m.cls := findClass_of_methodNamed hP1m
  have ecls : N.cN = P1.m.cls := Option.some.inj (hcN.symm.trans hfound)
  have hk : s.vm.classes[P1.m.cls]? = some N.kN := by rw [← ecls]; exact LN.cls
  have hinit := Cond.initialized_spec hfound hk (a' (.initialized Bundle.nN) (by simp [Bundle.npeArmAtoms]))
  have hctor : N.kN.findMethod "<init>" "()V" = some P1.m.idx := findMethod_of_methodNamed hP1m hk
  obtain ⟨c1, k1, hc1, hk1, -, -, -, hn⟩ := Cond.instantiable_spec (a' (.instantiable Bundle.nN n) (by simp [Bundle.npeArmAtoms]))
  cases Option.some.inj (hc1.symm.trans hfound)
  cases Option.some.inj (hk1.symm.trans hk)
  have hfsz : (freshCell P1.m.cls N.kN).slots.size = n := by simp [hn]
  have hlink1 : P1.sup = PR.m := Option.some.inj (hP1s.symm.trans hPRm)
  have hlinkR : PR.sup = PE.m := Option.some.inj (hPRs.symm.trans hPEm)
  have hlinkE : PE.sup = Z.m T.toThrowableT := Option.some.inj (hPEs.symm.trans Y.init0)
  have hLs : ∀ P, P ∈ [PR, PE] → P.Links0 e.platform s := fun P hP => by
    simp only [List.mem_cons, List.not_mem_nil, or_false] at hP
    rcases hP with rfl | rfl
    · exact LR
    · exact LEx
  have hsel0 : selectMethod e.platform s.vm P1.m.cls T.fill0 = .method T.fill0 := by
    obtain ⟨c2, r2, m2, q1, q2, q3, q4, -⟩ := Cond.selects_spec (a' (.selects Bundle.nN Bundle.tFill0 Bundle.tFill0) (by simp [Bundle.npeArmAtoms]))
    cases Option.some.inj (q1.symm.trans hfound)
    cases Option.some.inj (q2.symm.trans (State.methodFound?_of_named Y.fill0 (by decide)))
    cases Option.some.inj (q3.symm.trans Y.fill0)
    rw [Launch.admits_selectMethod X.admits]; exact q4
  have hselF : selectMethod e.platform s.vm P1.m.cls T.fill = .method N.fill := by
    obtain ⟨c2, r2, m2, q1, q2, q3, q4, -⟩ := Cond.selects_spec (a' (.selects Bundle.nN Bundle.tFill Bundle.nFill) (by simp [Bundle.npeArmAtoms]))
    cases Option.some.inj (q1.symm.trans hfound)
    cases Option.some.inj (q2.symm.trans (State.methodFound?_of_named Y.fill (by decide)))
    cases Option.some.inj (q3.symm.trans hnNF)
    rw [Launch.admits_selectMethod X.admits]; exact q4
  obtain ⟨cellS0, hcS0, hiss⟩ := Y.statics
  obtain ⟨u0, hu0⟩ := Cond.staticRefV Y.unassigned L.unassignedStatic L.statics hcS0 hiss (a' (.isRef (.static Bundle.tN "UNASSIGNED_STACK" Bundle.steD)) (by simp [Bundle.npeArmAtoms]))
  obtain ⟨sen, hsen⟩ := Cond.staticRefV Y.sentinel L.sentinelStatic L.statics hcS0 hiss (a' (.isRef (.static Bundle.tN "SUPPRESSED_SENTINEL" Bundle.listD)) (by simp [Bundle.npeArmAtoms]))
  obtain ⟨ci198, i198, fB, hk198, hg198, ha198, hsB, -, hnB, htB, hffB⟩ := Cond.ownField (t := .object "java/lang/Object") Y.found L.cls (by decide +kernel) (a' (.fieldLink Bundle.tN 198 Bundle.tN "backtrace" Bundle.objD) (by simp [Bundle.npeArmAtoms])) (a' (.lays Bundle.tN Bundle.tN "backtrace" Bundle.objD) (by simp [Bundle.npeArmAtoms])) e.platform hpl
  obtain ⟨cellS, hcS', heS, -, hkeep⟩ := X.same.2.2.2.2.2 T.aS cellS0 hcS0
  have hcellS : W.heap[T.aS]? = some cellS := hcS'
  have hout' : ∀ i, (⟨T.aS, i⟩ : Loc) ∉ locs := fun i hmem => by
    have := hlocs _ hmem cellS0 hcS0
    rw [hiss] at this; cases this
  have hknownS : cellS.vm ≠ .unknown := by
    rw [heS]; intro hu
    rw [show cellS0.vm = .unknown from hu] at hiss
    cases hiss
  have hvU : cellS.slots[T.fUnassigned.slot]? = some u0.v := by rw [hkeep _ (hout' _)]; exact hu0
  have hvSen : cellS.slots[T.fSentinel.slot]? = some sen.v := by rw [hkeep _ (hout' _)]; exact hsen
  obtain ⟨tyC, dC, hdC, hdnC⟩ := Cond.laysAt hfound hk Y.cause (a' (.lays Bundle.nN Bundle.tN "cause" "Ljava/lang/Throwable;") (by simp [Bundle.npeArmAtoms]))
  obtain ⟨tyS, dS, hdS, hdnS⟩ := Cond.laysAt hfound hk Y.stack (a' (.lays Bundle.nN Bundle.tN "stackTrace" Bundle.steD) (by simp [Bundle.npeArmAtoms]))
  obtain ⟨tyP, dP, hdP, hdnP⟩ := Cond.laysAt hfound hk Y.supp (a' (.lays Bundle.nN Bundle.tN "suppressedExceptions" Bundle.listD) (by simp [Bundle.npeArmAtoms]))
  obtain ⟨tyX, dX, hdX, hdnX⟩ := Cond.laysAt hfound hk hffS (a' (.lays Bundle.nN Bundle.nN "extendedMessageState" "I") (by simp [Bundle.npeArmAtoms, Bundle.npeAtoms]))
  obtain ⟨hnX, htX⟩ := State.fieldFound?_type hffS (t := .int) (by decide +kernel)
  have xC := Cond.laysApart hdC hdX hdnC hdnX (by rw [hnX, Y.causeName]; decide)
  have xS := Cond.laysApart hdS hdX hdnS hdnX (by rw [hnX, Y.stackName]; decide)
  have xP := Cond.laysApart hdP hdX hdnP hdnX (by rw [hnX, Y.suppName]; decide)
  have hv0 : (freshCell P1.m.cls N.kN).slots[N.fState.slot]? = some (.int 0) := by
    have := fresh_default (c := P1.m.cls) tyX
    rw [htX] at this; exact this
  obtain ⟨tyB, dB, hdB, hdnB⟩ := Cond.laysAt hfound hk hffB (a' (.lays Bundle.nN Bundle.tN "backtrace" Bundle.objD) (by simp [Bundle.npeArmAtoms]))
  have bC := Cond.laysApart hdB hdC hdnB hdnC (by rw [hnB, Y.causeName]; decide)
  have bS := Cond.laysApart hdB hdS hdnB hdnS (by rw [hnB, Y.stackName]; decide)
  have bP := Cond.laysApart hdB hdP hdnB hdnP (by rw [hnB, Y.suppName]; decide)
  have bX := Cond.laysApart hdB hdX hdnB hdnX (by rw [hnB, hnX]; decide)
  have hbk : ((npeCell N.toNpeT (preparedCellV T.toThrowableT (freshCell P1.m.cls N.kN) W.heap.size u0 sen) W.cur).withEntry W.cur).slots[fB.slot]? = some .null := by
    have := fresh_default (c := P1.m.cls) tyB
    rw [htB] at this
    simpa [npeCell, preparedCellV, Cell.setSlot, Cell.withEntry, Array.getElem?_setIfInBounds, bC, bS, bP, bX, bC.symm, bS.symm, bP.symm, bX.symm, defaultValue] using this
  have tkC := Takes.of_laid (v := .ref W.heap.size) hk hordN tyC (by rw [Y.causeType]; rfl)
  have tkS := Takes.of_laid (v := u0.v) hk hordN tyS (by rw [Y.stackType]; exact fits_refV_array _ u0)
  have tkP := Takes.of_laid (v := sen.v) hk hordN tyP (by rw [Y.suppType]; exact fits_refV_object _ sen)
  have tkX := Takes.of_laid (v := .int 1) hk hordN tyX (by rw [htX]; rfl)
  have hskip : SkipFacts T e.platform s (fun u => u) u0 ((npeCell N.toNpeT (preparedCellV T.toThrowableT (freshCell P1.m.cls N.kN) W.heap.size u0 sen) W.cur).withEntry W.cur) := ⟨{ ci198 := ci198, i198 := i198, fBack := fB }, ⟨hk198, hg198, ha198, hsB⟩, hbk, fun _ _ => rfl⟩
  obtain ⟨vm', X3, st, -⟩ := X.throwsNpeColdBareVAt hexec hg hsize T L Z LZ N LN P1 L1 [PR, PE] hLs hlink1 ⟨hlinkR, hlinkE, trivial⟩ hfound hk hinit hordN hctor hsel0 hselF hcellS hknownS hvU hvSen
    hv0 xC xS xP tkC tkS tkP tkX Y.objLocals hskip (fun _ _ hA hW _ hroom _ hrest => L.nativeOff p htr hA hW hroom hrest) (by simpa using hRframes) hRlocals (by simp) hRcells (by rw [hn]; exact hRslots)
  have hlt : W.heap.size < ((W.pushCell (freshCell P1.m.cls N.kN)).setVm vm').heap.size := by
    show W.heap.size < (W.pushCell (freshCell P1.m.cls N.kN)).heap.size
    rw [State.heap_size_pushCell]; omega
  rw [hfsz] at X3
  obtain ⟨g₁, hfrM⟩ := X3.frames_eq
  have hU : ((((W.pushCell (freshCell P1.m.cls N.kN)).setVm vm').setCell W.heap.size (npeBareV T.toThrowableT N.toNpeT (freshCell P1.m.cls N.kN) W.heap.size u0 sen)).setTop g).pushFrame (.throwing W.heap.size) = (((W.pushCell (freshCell P1.m.cls N.kN)).setVm vm').setCell W.heap.size (npeBareV T.toThrowableT N.toNpeT (freshCell P1.m.cls N.kN) W.heap.size u0 sen)).setFrames (.throwing W.heap.size :: .java g :: below) := by
    rw [State.pushFrame, State.frames_setTop _ hfrM, State.setTop_of_frames _ hfrM, State.setFrames_setFrames]
  refine ⟨_, W.heap.size, _, fun target ht => st.trans (by rw [← hU]; exact ht), X3.forget (fun y hy => ?_), heapAt_setCell_self _ hlt, hfound, rfl⟩
  simp only [List.mem_cons, List.not_mem_nil, or_false] at hy
  have hge : s.heap.size ≤ W.heap.size := X.same.2.1
  rcases hy with rfl | rfl | rfl | rfl | rfl <;> exact hge
/-- the words of a machine's NullPointerException, but the four that speak of the heap -/
def vx_atN (n : Nat) : List Cond := (Bundle.npeArmAtoms n).filter vx_no
/-- the words of a machine's throw with a message, but the four that speak of the heap -/
def vx_atM (X : String) (names : List String) : List Cond := (Bundle.messageArmAtoms X names).filter vx_no
section
variable {p : Program} {l : Launch} {e : Env} {R : Room} {s : State} {m : MethodId} {args : Array Value} {below : List Frame} {meth : Method} {c : Code} {H : Heap} {locs : List Loc} {cells slots : Nat}
/-- a frame seen from a rebased start, seen from the first start again -/
theorem vx_back9 {T S : State} {R' : Room} {k n : Nat} (X : Stand p l e R s m args below meth c T locs cells slots) (Y : Stand p l e R' ((T.setVm s.vm).setFrames (.invoking m args :: below)) m args below meth c T [] 0 0) (Z : Stand p l e R' ((T.setVm s.vm).setFrames (.invoking m args :: below)) m args below meth c S [] k n) :
    Stand p l e R s m args below meth c S locs (cells + k) (slots + n) := by
  have hW0 : s.WarmedH ((T.setVm s.vm).setFrames (.invoking m args :: below)).vm := State.WarmedH.refl s
  refine { admits := X.admits, cas := X.cas, clock := X.clock, frames := X.frames, room := X.room, hears := X.hears, method := X.method, code := X.code, here := Z.here, tail := Z.tail, warmed := State.WarmedH.trans hW0 Z.warmed, limits := Z.limits.trans (Y.limits.symm.trans X.limits), bytes := Z.bytes.trans (Y.bytes.symm.trans X.bytes), same := ?_ }
  obtain ⟨e1, e2⟩ := Z.same
  rw [State.setFrames_setFrames] at e1
  have h2 : (T.setVm s.vm).sameButNew (S.setVm s.vm) [] k n := ⟨e1, e2⟩
  have h3 := X.same.trans h2
  rw [List.append_nil] at h3
  exact h3
/-- from the machine's note that E is thrown here with this text -/
def vx_Note (p : Program) (l : Launch) (e : Env) (R : Room) (s : State) (m : MethodId) (args : Array Value) (below : List Frame) (meth : Method) (c : Code) (H : Heap) (locs : List Loc) (cells slots : Nat) (Q : State → Prop) (g : JFrame) (E text : String) : Prop :=
  ∀ T : State, T.heap = H → Stand p l e R s m args below meth c T locs cells slots → ∃ t, Steps p.tables e below ((T.setTop g).pushFrame (.throwNew E (some text) none)) t ∧ Q t
theorem vx_vm {pc : Nat} {ls : Array Slot} {rest : List Value} {Q : State → Prop} (hexec : p.tables.exec = Jvm.exec) (hl : l.stackTraces = false) {cls text : String} {names : List String} {nb : Nat} {A : Nat → Prop}
    (hcls : Bundle.fit cls = true) (hnames : ∀ n ∈ names, Bundle.fit n = true) (hsoe : (cls == "java/lang/StackOverflowError") = false) (hoom : (cls == "java/lang/OutOfMemoryError") = false)
    (hat : ∀ w ∈ vx_atM cls names, w.before args s = true) (hgood : ∀ w ∈ vx_atM cls names, vx_ot w = true)
    (hU : vx_Zq Bundle.tN "UNASSIGNED_STACK" Bundle.steD A s s.heap) (hN : vx_Zq Bundle.tN "SUPPRESSED_SENTINEL" Bundle.listD A s s.heap) (hS : va_S A s.heap H locs) (hsize : ls.size = c.maxLocals)
    (htext : (text == notModelled) = false) (hnb : (stringBytes (stringToUtf16 text)).size ≤ nb) (hnb1 : nb ≤ 1000)
    (hRframes : names.length + 4 < R.frames) (hRlocals : (rest.map fun v => v.category).sum + 10240 ≤ R.locals) (hshort : 13 * names.length + 55 ≤ 10240) (hRcells : cells + 3 ≤ R.cells) (hRslots : slots + (nb + 10) ≤ R.slots) (hlocks : meth.locks = false)
    (k : ∀ (H1 : Heap) (q9 : Addr) (ce : Cell), H.size ≤ H1.size → (∀ q : Nat, q < H.size → H1[q]? = H[q]?) → va_S A s.heap H1 locs → H1[q9]? = some ce → ce.vm = .none → s.vm.findClass cls = some ce.cls → vx_W p l e R s m args below meth c H1 locs (cells + 3) (slots + (nb + 10)) Q (F0 m pc ls rest) q9) :
    vx_Note p l e R s m args below meth c H locs cells slots Q (F0 m pc ls rest) cls text := by
  intro T hT X
  have htr : e.platform.stackTraces = false := (show e.platform.stackTraces = l.stackTraces by rw [X.admits.platform]).trans hl
  have Y := vx_rebase X (R' := { frames := R.frames, locals := R.locals, cells := 3, slots := nb + 10 }) (Nat.le_refl _) (Nat.le_refl _) hRcells hRslots
  have hhp : ((T.setVm s.vm).setFrames (.invoking m args :: below)).heap = H := hT
  have hW0 : s.WarmedH ((T.setVm s.vm).setFrames (.invoking m args :: below)).vm := State.WarmedH.refl s
  have hat' : ∀ w ∈ vx_atM cls names, w.before args ((T.setVm s.vm).setFrames (.invoking m args :: below)) = true := fun w hw => vx_ot_at hW0 rfl (hgood w hw) (hat w hw)
  have hU' : vx_Zq Bundle.tN "UNASSIGNED_STACK" Bundle.steD A ((T.setVm s.vm).setFrames (.invoking m args :: below)) ((T.setVm s.vm).setFrames (.invoking m args :: below)).heap := by rw [hhp]; exact vx_Zq.moved hW0.alike (hU.kept hS.2.1)
  have hN' : vx_Zq Bundle.tN "SUPPRESSED_SENTINEL" Bundle.listD A ((T.setVm s.vm).setFrames (.invoking m args :: below)) ((T.setVm s.vm).setFrames (.invoking m args :: below)).heap := by rw [hhp]; exact vx_Zq.moved hW0.alike (hN.kept hS.2.1)
  obtain ⟨S, q, ce, st, Z, hce, hcl', hv⟩ := vx_vmAt Y hexec htr (cls := cls) (names := names) (text := text) hcls hnames hsoe hoom (vx_own hat' (vx_isRefq hU'.1) (vx_isRefq hN'.1) hU'.2.word hN'.2.word) (fun x hx => nomatch hx) htext
    (by rw [Launch.admits_arrayLengthLimit X.admits]; omega) (by rw [Launch.admits_maxHeapBytes X.admits]; simp only [componentBytes]; omega)
    (g := F0 m pc ls rest) rfl hsize hRframes (by show 2 * 0 + (rest.map fun v => v.category).sum + 10240 ≤ R.locals; omega) hshort (by show 0 + 3 ≤ 3; omega) (by show 0 + (_ + 4 + 6) ≤ nb + 10; omega) hlocks
  obtain ⟨f1, f2⟩ := vx_frame Z.same
  have f1' : H.size ≤ S.heap.size := by rw [← hT]; exact f1
  have f2' : ∀ q : Nat, q < H.size → S.heap[q]? = H[q]? := fun q hq => by
    rw [← hT]
    exact f2 q (by rw [← hT] at hq; exact hq) (fun z hz => nomatch hz)
  have X5 := vx_back9 X Y Z
  have X6 : Stand p l e R s m args below meth c S locs (cells + 3) (slots + (nb + 10)) := { X5 with same := X5.same.mono (by omega) (by omega) }
  obtain ⟨t, a1, b1⟩ := k S.heap q ce f1' f2' ⟨Nat.le_trans hS.1 f1', fun q h1 h2 => (f2' q (Nat.lt_of_lt_of_le h1 hS.1)).trans (hS.2.1 q h1 h2), hS.2.2⟩ hce hv hcl' S rfl X6
  exact ⟨t, st t a1, b1⟩
/-- from the machine's note that NullPointerException is thrown here -/
def vx_NoteN (p : Program) (l : Launch) (e : Env) (R : Room) (s : State) (m : MethodId) (args : Array Value) (below : List Frame) (meth : Method) (c : Code) (H : Heap) (locs : List Loc) (cells slots : Nat) (Q : State → Prop) (g : JFrame) : Prop :=
  ∀ T : State, T.heap = H → Stand p l e R s m args below meth c T locs cells slots → ∃ t, Steps p.tables e below ((T.setTop g).pushFrame (.throwNew "java/lang/NullPointerException" none none)) t ∧ Q t
theorem vx_npe {pc : Nat} {ls : Array Slot} {rest : List Value} {Q : State → Prop} (hexec : p.tables.exec = Jvm.exec) (hl : l.stackTraces = false) {nb : Nat} {A : Nat → Prop}
    (hat : ∀ w ∈ vx_atN nb, w.before args s = true) (hgood : ∀ w ∈ vx_atN nb, vx_ot w = true)
    (hU : vx_Zq Bundle.tN "UNASSIGNED_STACK" Bundle.steD A s s.heap) (hN : vx_Zq Bundle.tN "SUPPRESSED_SENTINEL" Bundle.listD A s s.heap) (hS : va_S A s.heap H locs) (hsize : ls.size = c.maxLocals)
    (hRframes : 7 < R.frames) (hRlocals : (rest.map fun v => v.category).sum + 10240 ≤ R.locals) (hRcells : cells + 1 ≤ R.cells) (hRslots : slots + nb ≤ R.slots) (hlocks : meth.locks = false)
    (k : ∀ (H1 : Heap) (q9 : Addr) (ce : Cell), H.size ≤ H1.size → (∀ q : Nat, q < H.size → H1[q]? = H[q]?) → va_S A s.heap H1 locs → H1[q9]? = some ce → ce.vm = .none → s.vm.findClass "java/lang/NullPointerException" = some ce.cls → vx_W p l e R s m args below meth c H1 locs (cells + 1) (slots + nb) Q (F0 m pc ls rest) q9) :
    vx_NoteN p l e R s m args below meth c H locs cells slots Q (F0 m pc ls rest) := by
  intro T hT X
  have htr : e.platform.stackTraces = false := (show e.platform.stackTraces = l.stackTraces by rw [X.admits.platform]).trans hl
  have Y := vx_rebase X (R' := { frames := R.frames, locals := R.locals, cells := 1, slots := nb }) (Nat.le_refl _) (Nat.le_refl _) hRcells hRslots
  have hhp : ((T.setVm s.vm).setFrames (.invoking m args :: below)).heap = H := hT
  have hW0 : s.WarmedH ((T.setVm s.vm).setFrames (.invoking m args :: below)).vm := State.WarmedH.refl s
  have hat' : ∀ w ∈ vx_atN nb, w.before args ((T.setVm s.vm).setFrames (.invoking m args :: below)) = true := fun w hw => vx_ot_at hW0 rfl (hgood w hw) (hat w hw)
  have hU' : vx_Zq Bundle.tN "UNASSIGNED_STACK" Bundle.steD A ((T.setVm s.vm).setFrames (.invoking m args :: below)) ((T.setVm s.vm).setFrames (.invoking m args :: below)).heap := by rw [hhp]; exact vx_Zq.moved hW0.alike (hU.kept hS.2.1)
  have hN' : vx_Zq Bundle.tN "SUPPRESSED_SENTINEL" Bundle.listD A ((T.setVm s.vm).setFrames (.invoking m args :: below)) ((T.setVm s.vm).setFrames (.invoking m args :: below)).heap := by rw [hhp]; exact vx_Zq.moved hW0.alike (hN.kept hS.2.1)
  obtain ⟨S, q, ce, st, Z, hce, hcl', hv⟩ := vx_npeAt Y hexec htr (n := nb) (vx_own hat' (vx_isRefq hU'.1) (vx_isRefq hN'.1) hU'.2.word hN'.2.word) (fun x hx => nomatch hx)
    (g := F0 m pc ls rest) rfl hsize hRframes (by show 2 * 0 + (rest.map fun v => v.category).sum + 10240 ≤ R.locals; omega) (by show 0 + 1 ≤ 1; omega) (by show 0 + nb ≤ nb; omega) hlocks
  obtain ⟨f1, f2⟩ := vx_frame Z.same
  have f1' : H.size ≤ S.heap.size := by rw [← hT]; exact f1
  have f2' : ∀ q : Nat, q < H.size → S.heap[q]? = H[q]? := fun q hq => by
    rw [← hT]
    exact f2 q (by rw [← hT] at hq; exact hq) (fun z hz => nomatch hz)
  have X5 := vx_back9 X Y Z
  have X6 : Stand p l e R s m args below meth c S locs (cells + 1) (slots + nb) := { X5 with same := X5.same.mono (by omega) (by omega) }
  obtain ⟨t, a1, b1⟩ := k S.heap q ce f1' f2' ⟨Nat.le_trans hS.1 f1', fun q h1 h2 => (f2' q (Nat.lt_of_lt_of_le h1 hS.1)).trans (hS.2.1 q h1 h2), hS.2.2⟩ hce hv hcl' S rfl X6
  exact ⟨t, st t a1, b1⟩
variable {Q : State → Prop} {cc : ByteArray} {pc : Nat} {ls : Array Slot} {rest : List Value}
theorem vx_idivZ (hexec : p.tables.exec = Jvm.exec) (hb : c.code = cc) {a b : Int32} (h0 : b = 0) (d : decode cc pc = .ok (.idiv, 1)) (k : vx_Note p l e R s m args below meth c H locs cells slots Q (F0 m pc ls rest) "java/lang/ArithmeticException" "/ by zero") :
    W p l e R s m args below meth c H locs cells slots Q (F0 m pc ls (.int b :: .int a :: rest)) := by
  intro T hT X
  obtain ⟨t, st, q⟩ := k T hT X
  exact ⟨t, X.idivZero hexec (g := F0 m pc ls (.int b :: .int a :: rest)) rfl (a := a) (rest := rest) (by rw [h0]) (by rw [hb]; exact d) t st, q⟩
theorem vx_iremZ (hexec : p.tables.exec = Jvm.exec) (hb : c.code = cc) {a b : Int32} (h0 : b = 0) (d : decode cc pc = .ok (.irem, 1)) (k : vx_Note p l e R s m args below meth c H locs cells slots Q (F0 m pc ls rest) "java/lang/ArithmeticException" "/ by zero") :
    W p l e R s m args below meth c H locs cells slots Q (F0 m pc ls (.int b :: .int a :: rest)) := by
  intro T hT X
  obtain ⟨t, st, q⟩ := k T hT X
  exact ⟨t, X.iremZero hexec (g := F0 m pc ls (.int b :: .int a :: rest)) rfl (a := a) (rest := rest) (by rw [h0]) (by rw [hb]; exact d) t st, q⟩
theorem vx_ldivZ (hexec : p.tables.exec = Jvm.exec) (hb : c.code = cc) {a b : Int64} (h0 : b = 0) (d : decode cc pc = .ok (.ldiv, 1)) (k : vx_Note p l e R s m args below meth c H locs cells slots Q (F0 m pc ls rest) "java/lang/ArithmeticException" "/ by zero") :
    W p l e R s m args below meth c H locs cells slots Q (F0 m pc ls (.long b :: .long a :: rest)) := by
  intro T hT X
  obtain ⟨t, st, q⟩ := k T hT X
  exact ⟨t, X.ldivZero hexec (g := F0 m pc ls (.long b :: .long a :: rest)) rfl (a := a) (rest := rest) (by rw [h0]) (by rw [hb]; exact d) t st, q⟩
theorem vx_lremZ (hexec : p.tables.exec = Jvm.exec) (hb : c.code = cc) {a b : Int64} (h0 : b = 0) (d : decode cc pc = .ok (.lrem, 1)) (k : vx_Note p l e R s m args below meth c H locs cells slots Q (F0 m pc ls rest) "java/lang/ArithmeticException" "/ by zero") :
    W p l e R s m args below meth c H locs cells slots Q (F0 m pc ls (.long b :: .long a :: rest)) := by
  intro T hT X
  obtain ⟨t, st, q⟩ := k T hT X
  exact ⟨t, X.lremZero hexec (g := F0 m pc ls (.long b :: .long a :: rest)) rfl (a := a) (rest := rest) (by rw [h0]) (by rw [hb]; exact d) t st, q⟩
theorem vx_ialdZ {D : va_G} {cl : List vw_C} {ws : va_W} {tys : List (ClassId × FieldType)} {a : Nat} (hexec : p.tables.exec = Jvm.exec) (hb : c.code = cc) (hK : va_K D cl tys s) (hP : va_P D cl ws H) (q0 t0 : Nat) {cA : ClassId} {n : Nat} {f : Nat → Int32} (ha : ws[q0]? = some (a, .inl (cA, n, .inl f))) (ht : tys[t0]? = some (cA, .int)) {i : Int32} (hout : ¬ vp_in i n) (hdg : decode cc pc = .ok (.iaload, 1))
    (k : ∀ tx : String, tx = (toString "Index " ++ toString i ++ toString " out of bounds for length " ++ toString n : String) → vx_Note p l e R s m args below meth c H locs cells slots Q (F0 m pc ls rest) "java/lang/ArrayIndexOutOfBoundsException" tx) : W p l e R s m args below meth c H locs cells slots Q (F0 m pc ls (.int i :: .ref a :: rest)) := by
  intro T hT X
  obtain ⟨t, st, q⟩ := k _ rfl T hT X
  refine ⟨t, ?_, q⟩
  have h1 := X.ialoadOut hexec (by rw [hT]; exact hP q0 _ ha) ((hK.2 t0 _ ht).1 n (fun j => .int (f j))) (j := i) (by show (i < 0 ∨ (arrV _ _ _).slots.size ≤ _); rw [arrV_size]; exact Classical.byContradiction hout) (g := F0 m pc ls (.int i :: .ref a :: rest)) rfl (rest := rest) rfl (by rw [hb]; exact hdg) t
  simp only [arrV_size] at h1
  exact h1 st
theorem vx_iastZ {D : va_G} {cl : List vw_C} {ws : va_W} {tys : List (ClassId × FieldType)} {a : Nat} (hexec : p.tables.exec = Jvm.exec) (hb : c.code = cc) (hK : va_K D cl tys s) (hP : va_P D cl ws H) (q0 t0 : Nat) {cA : ClassId} {n : Nat} {f : Nat → Int32} (ha : ws[q0]? = some (a, .inl (cA, n, .inl f))) (ht : tys[t0]? = some (cA, .int)) {i : Int32} {x : Int32} (hout : ¬ vp_in i n) (hdg : decode cc pc = .ok (.iastore, 1))
    (k : ∀ tx : String, tx = (toString "Index " ++ toString i ++ toString " out of bounds for length " ++ toString n : String) → vx_Note p l e R s m args below meth c H locs cells slots Q (F0 m pc ls rest) "java/lang/ArrayIndexOutOfBoundsException" tx) : W p l e R s m args below meth c H locs cells slots Q (F0 m pc ls (.int x :: .int i :: .ref a :: rest)) := by
  intro T hT X
  obtain ⟨t, st, q⟩ := k _ rfl T hT X
  refine ⟨t, ?_, q⟩
  have h1 := X.iastoreOut hexec (by rw [hT]; exact hP q0 _ ha) ((hK.2 t0 _ ht).1 n (fun j => .int (f j))) (j := i) (by show (i < 0 ∨ (arrV _ _ _).slots.size ≤ _); rw [arrV_size]; exact Classical.byContradiction hout) (g := F0 m pc ls (.int x :: .int i :: .ref a :: rest)) rfl (rest := rest) rfl (by rw [hb]; exact hdg) t
  simp only [arrV_size] at h1
  exact h1 st
theorem vx_baldZ {D : va_G} {cl : List vw_C} {ws : va_W} {tys : List (ClassId × FieldType)} {a : Nat} (hexec : p.tables.exec = Jvm.exec) (hb : c.code = cc) (hK : va_K D cl tys s) (hP : va_P D cl ws H) (q0 t0 : Nat) {cA : ClassId} {n : Nat} {f : Nat → Int32} (ha : ws[q0]? = some (a, .inl (cA, n, .inl f))) (ht : tys[t0]? = some (cA, .byte)) {i : Int32} (hout : ¬ vp_in i n) (hdg : decode cc pc = .ok (.baload, 1))
    (k : ∀ tx : String, tx = (toString "Index " ++ toString i ++ toString " out of bounds for length " ++ toString n : String) → vx_Note p l e R s m args below meth c H locs cells slots Q (F0 m pc ls rest) "java/lang/ArrayIndexOutOfBoundsException" tx) : W p l e R s m args below meth c H locs cells slots Q (F0 m pc ls (.int i :: .ref a :: rest)) := by
  intro T hT X
  obtain ⟨t, st, q⟩ := k _ rfl T hT X
  refine ⟨t, ?_, q⟩
  have h1 := X.baloadOut hexec (by rw [hT]; exact hP q0 _ ha) ((hK.2 t0 _ ht).1 n (fun j => .int (f j))) (j := i) (by show (i < 0 ∨ (arrV _ _ _).slots.size ≤ _); rw [arrV_size]; exact Classical.byContradiction hout) (g := F0 m pc ls (.int i :: .ref a :: rest)) rfl (rest := rest) rfl (by rw [hb]; exact hdg) t
  simp only [arrV_size] at h1
  exact h1 st
theorem vx_bastZ {D : va_G} {cl : List vw_C} {ws : va_W} {tys : List (ClassId × FieldType)} {a : Nat} (hexec : p.tables.exec = Jvm.exec) (hb : c.code = cc) (hK : va_K D cl tys s) (hP : va_P D cl ws H) (q0 t0 : Nat) {cA : ClassId} {n : Nat} {f : Nat → Int32} (ha : ws[q0]? = some (a, .inl (cA, n, .inl f))) (ht : tys[t0]? = some (cA, .byte)) {i : Int32} {x : Int32} (hout : ¬ vp_in i n) (hdg : decode cc pc = .ok (.bastore, 1))
    (k : ∀ tx : String, tx = (toString "Index " ++ toString i ++ toString " out of bounds for length " ++ toString n : String) → vx_Note p l e R s m args below meth c H locs cells slots Q (F0 m pc ls rest) "java/lang/ArrayIndexOutOfBoundsException" tx) : W p l e R s m args below meth c H locs cells slots Q (F0 m pc ls (.int x :: .int i :: .ref a :: rest)) := by
  intro T hT X
  obtain ⟨t, st, q⟩ := k _ rfl T hT X
  refine ⟨t, ?_, q⟩
  have h1 := X.bastoreOut hexec (by rw [hT]; exact hP q0 _ ha) ((hK.2 t0 _ ht).1 n (fun j => .int (f j))) (j := i) (by show (i < 0 ∨ (arrV _ _ _).slots.size ≤ _); rw [arrV_size]; exact Classical.byContradiction hout) (g := F0 m pc ls (.int x :: .int i :: .ref a :: rest)) rfl (rest := rest) rfl (by rw [hb]; exact hdg) t
  simp only [arrV_size] at h1
  exact h1 st
theorem vx_zaldZ {D : va_G} {cl : List vw_C} {ws : va_W} {tys : List (ClassId × FieldType)} {a : Nat} (hexec : p.tables.exec = Jvm.exec) (hb : c.code = cc) (hK : va_K D cl tys s) (hP : va_P D cl ws H) (q0 t0 : Nat) {cA : ClassId} {n : Nat} {f : Nat → Int32} (ha : ws[q0]? = some (a, .inl (cA, n, .inl f))) (ht : tys[t0]? = some (cA, .boolean)) {i : Int32} (hout : ¬ vp_in i n) (hdg : decode cc pc = .ok (.baload, 1))
    (k : ∀ tx : String, tx = (toString "Index " ++ toString i ++ toString " out of bounds for length " ++ toString n : String) → vx_Note p l e R s m args below meth c H locs cells slots Q (F0 m pc ls rest) "java/lang/ArrayIndexOutOfBoundsException" tx) : W p l e R s m args below meth c H locs cells slots Q (F0 m pc ls (.int i :: .ref a :: rest)) := by
  intro T hT X
  obtain ⟨t, st, q⟩ := k _ rfl T hT X
  refine ⟨t, ?_, q⟩
  have h1 := X.baloadOut hexec (by rw [hT]; exact hP q0 _ ha) ((hK.2 t0 _ ht).1 n (fun j => .int (f j))) (j := i) (by show (i < 0 ∨ (arrV _ _ _).slots.size ≤ _); rw [arrV_size]; exact Classical.byContradiction hout) (g := F0 m pc ls (.int i :: .ref a :: rest)) rfl (rest := rest) rfl (by rw [hb]; exact hdg) t
  simp only [arrV_size] at h1
  exact h1 st
theorem vx_zastZ {D : va_G} {cl : List vw_C} {ws : va_W} {tys : List (ClassId × FieldType)} {a : Nat} (hexec : p.tables.exec = Jvm.exec) (hb : c.code = cc) (hK : va_K D cl tys s) (hP : va_P D cl ws H) (q0 t0 : Nat) {cA : ClassId} {n : Nat} {f : Nat → Int32} (ha : ws[q0]? = some (a, .inl (cA, n, .inl f))) (ht : tys[t0]? = some (cA, .boolean)) {i : Int32} {x : Int32} (hout : ¬ vp_in i n) (hdg : decode cc pc = .ok (.bastore, 1))
    (k : ∀ tx : String, tx = (toString "Index " ++ toString i ++ toString " out of bounds for length " ++ toString n : String) → vx_Note p l e R s m args below meth c H locs cells slots Q (F0 m pc ls rest) "java/lang/ArrayIndexOutOfBoundsException" tx) : W p l e R s m args below meth c H locs cells slots Q (F0 m pc ls (.int x :: .int i :: .ref a :: rest)) := by
  intro T hT X
  obtain ⟨t, st, q⟩ := k _ rfl T hT X
  refine ⟨t, ?_, q⟩
  have h1 := X.bastoreOut hexec (by rw [hT]; exact hP q0 _ ha) ((hK.2 t0 _ ht).1 n (fun j => .int (f j))) (j := i) (by show (i < 0 ∨ (arrV _ _ _).slots.size ≤ _); rw [arrV_size]; exact Classical.byContradiction hout) (g := F0 m pc ls (.int x :: .int i :: .ref a :: rest)) rfl (rest := rest) rfl (by rw [hb]; exact hdg) t
  simp only [arrV_size] at h1
  exact h1 st
theorem vx_caldZ {D : va_G} {cl : List vw_C} {ws : va_W} {tys : List (ClassId × FieldType)} {a : Nat} (hexec : p.tables.exec = Jvm.exec) (hb : c.code = cc) (hK : va_K D cl tys s) (hP : va_P D cl ws H) (q0 t0 : Nat) {cA : ClassId} {n : Nat} {f : Nat → Int32} (ha : ws[q0]? = some (a, .inl (cA, n, .inl f))) (ht : tys[t0]? = some (cA, .char)) {i : Int32} (hout : ¬ vp_in i n) (hdg : decode cc pc = .ok (.caload, 1))
    (k : ∀ tx : String, tx = (toString "Index " ++ toString i ++ toString " out of bounds for length " ++ toString n : String) → vx_Note p l e R s m args below meth c H locs cells slots Q (F0 m pc ls rest) "java/lang/ArrayIndexOutOfBoundsException" tx) : W p l e R s m args below meth c H locs cells slots Q (F0 m pc ls (.int i :: .ref a :: rest)) := by
  intro T hT X
  obtain ⟨t, st, q⟩ := k _ rfl T hT X
  refine ⟨t, ?_, q⟩
  have h1 := X.caloadOut hexec (by rw [hT]; exact hP q0 _ ha) ((hK.2 t0 _ ht).1 n (fun j => .int (f j))) (j := i) (by show (i < 0 ∨ (arrV _ _ _).slots.size ≤ _); rw [arrV_size]; exact Classical.byContradiction hout) (g := F0 m pc ls (.int i :: .ref a :: rest)) rfl (rest := rest) rfl (by rw [hb]; exact hdg) t
  simp only [arrV_size] at h1
  exact h1 st
theorem vx_castZ {D : va_G} {cl : List vw_C} {ws : va_W} {tys : List (ClassId × FieldType)} {a : Nat} (hexec : p.tables.exec = Jvm.exec) (hb : c.code = cc) (hK : va_K D cl tys s) (hP : va_P D cl ws H) (q0 t0 : Nat) {cA : ClassId} {n : Nat} {f : Nat → Int32} (ha : ws[q0]? = some (a, .inl (cA, n, .inl f))) (ht : tys[t0]? = some (cA, .char)) {i : Int32} {x : Int32} (hout : ¬ vp_in i n) (hdg : decode cc pc = .ok (.castore, 1))
    (k : ∀ tx : String, tx = (toString "Index " ++ toString i ++ toString " out of bounds for length " ++ toString n : String) → vx_Note p l e R s m args below meth c H locs cells slots Q (F0 m pc ls rest) "java/lang/ArrayIndexOutOfBoundsException" tx) : W p l e R s m args below meth c H locs cells slots Q (F0 m pc ls (.int x :: .int i :: .ref a :: rest)) := by
  intro T hT X
  obtain ⟨t, st, q⟩ := k _ rfl T hT X
  refine ⟨t, ?_, q⟩
  have h1 := X.castoreOut hexec (by rw [hT]; exact hP q0 _ ha) ((hK.2 t0 _ ht).1 n (fun j => .int (f j))) (j := i) (by show (i < 0 ∨ (arrV _ _ _).slots.size ≤ _); rw [arrV_size]; exact Classical.byContradiction hout) (g := F0 m pc ls (.int x :: .int i :: .ref a :: rest)) rfl (rest := rest) rfl (by rw [hb]; exact hdg) t
  simp only [arrV_size] at h1
  exact h1 st
theorem vx_saldZ {D : va_G} {cl : List vw_C} {ws : va_W} {tys : List (ClassId × FieldType)} {a : Nat} (hexec : p.tables.exec = Jvm.exec) (hb : c.code = cc) (hK : va_K D cl tys s) (hP : va_P D cl ws H) (q0 t0 : Nat) {cA : ClassId} {n : Nat} {f : Nat → Int32} (ha : ws[q0]? = some (a, .inl (cA, n, .inl f))) (ht : tys[t0]? = some (cA, .short)) {i : Int32} (hout : ¬ vp_in i n) (hdg : decode cc pc = .ok (.saload, 1))
    (k : ∀ tx : String, tx = (toString "Index " ++ toString i ++ toString " out of bounds for length " ++ toString n : String) → vx_Note p l e R s m args below meth c H locs cells slots Q (F0 m pc ls rest) "java/lang/ArrayIndexOutOfBoundsException" tx) : W p l e R s m args below meth c H locs cells slots Q (F0 m pc ls (.int i :: .ref a :: rest)) := by
  intro T hT X
  obtain ⟨t, st, q⟩ := k _ rfl T hT X
  refine ⟨t, ?_, q⟩
  have h1 := X.saloadOut hexec (by rw [hT]; exact hP q0 _ ha) ((hK.2 t0 _ ht).1 n (fun j => .int (f j))) (j := i) (by show (i < 0 ∨ (arrV _ _ _).slots.size ≤ _); rw [arrV_size]; exact Classical.byContradiction hout) (g := F0 m pc ls (.int i :: .ref a :: rest)) rfl (rest := rest) rfl (by rw [hb]; exact hdg) t
  simp only [arrV_size] at h1
  exact h1 st
theorem vx_sastZ {D : va_G} {cl : List vw_C} {ws : va_W} {tys : List (ClassId × FieldType)} {a : Nat} (hexec : p.tables.exec = Jvm.exec) (hb : c.code = cc) (hK : va_K D cl tys s) (hP : va_P D cl ws H) (q0 t0 : Nat) {cA : ClassId} {n : Nat} {f : Nat → Int32} (ha : ws[q0]? = some (a, .inl (cA, n, .inl f))) (ht : tys[t0]? = some (cA, .short)) {i : Int32} {x : Int32} (hout : ¬ vp_in i n) (hdg : decode cc pc = .ok (.sastore, 1))
    (k : ∀ tx : String, tx = (toString "Index " ++ toString i ++ toString " out of bounds for length " ++ toString n : String) → vx_Note p l e R s m args below meth c H locs cells slots Q (F0 m pc ls rest) "java/lang/ArrayIndexOutOfBoundsException" tx) : W p l e R s m args below meth c H locs cells slots Q (F0 m pc ls (.int x :: .int i :: .ref a :: rest)) := by
  intro T hT X
  obtain ⟨t, st, q⟩ := k _ rfl T hT X
  refine ⟨t, ?_, q⟩
  have h1 := X.sastoreOut hexec (by rw [hT]; exact hP q0 _ ha) ((hK.2 t0 _ ht).1 n (fun j => .int (f j))) (j := i) (by show (i < 0 ∨ (arrV _ _ _).slots.size ≤ _); rw [arrV_size]; exact Classical.byContradiction hout) (g := F0 m pc ls (.int x :: .int i :: .ref a :: rest)) rfl (rest := rest) rfl (by rw [hb]; exact hdg) t
  simp only [arrV_size] at h1
  exact h1 st
theorem vx_laldZ {D : va_G} {cl : List vw_C} {ws : va_W} {tys : List (ClassId × FieldType)} {a : Nat} (hexec : p.tables.exec = Jvm.exec) (hb : c.code = cc) (hK : va_K D cl tys s) (hP : va_P D cl ws H) (q0 t0 : Nat) {cA : ClassId} {n : Nat} {f : Nat → Int64} (ha : ws[q0]? = some (a, .inl (cA, n, .inr (.inl f)))) (ht : tys[t0]? = some (cA, .long)) {i : Int32} (hout : ¬ vp_in i n) (hdg : decode cc pc = .ok (.laload, 1))
    (k : ∀ tx : String, tx = (toString "Index " ++ toString i ++ toString " out of bounds for length " ++ toString n : String) → vx_Note p l e R s m args below meth c H locs cells slots Q (F0 m pc ls rest) "java/lang/ArrayIndexOutOfBoundsException" tx) : W p l e R s m args below meth c H locs cells slots Q (F0 m pc ls (.int i :: .ref a :: rest)) := by
  intro T hT X
  obtain ⟨t, st, q⟩ := k _ rfl T hT X
  refine ⟨t, ?_, q⟩
  have h1 := X.laloadOut hexec (by rw [hT]; exact hP q0 _ ha) ((hK.2 t0 _ ht).1 n (fun j => .long (f j))) (j := i) (by show (i < 0 ∨ (arrV _ _ _).slots.size ≤ _); rw [arrV_size]; exact Classical.byContradiction hout) (g := F0 m pc ls (.int i :: .ref a :: rest)) rfl (rest := rest) rfl (by rw [hb]; exact hdg) t
  simp only [arrV_size] at h1
  exact h1 st
theorem vx_lastZ {D : va_G} {cl : List vw_C} {ws : va_W} {tys : List (ClassId × FieldType)} {a : Nat} (hexec : p.tables.exec = Jvm.exec) (hb : c.code = cc) (hK : va_K D cl tys s) (hP : va_P D cl ws H) (q0 t0 : Nat) {cA : ClassId} {n : Nat} {f : Nat → Int64} (ha : ws[q0]? = some (a, .inl (cA, n, .inr (.inl f)))) (ht : tys[t0]? = some (cA, .long)) {i : Int32} {x : Int64} (hout : ¬ vp_in i n) (hdg : decode cc pc = .ok (.lastore, 1))
    (k : ∀ tx : String, tx = (toString "Index " ++ toString i ++ toString " out of bounds for length " ++ toString n : String) → vx_Note p l e R s m args below meth c H locs cells slots Q (F0 m pc ls rest) "java/lang/ArrayIndexOutOfBoundsException" tx) : W p l e R s m args below meth c H locs cells slots Q (F0 m pc ls (.long x :: .int i :: .ref a :: rest)) := by
  intro T hT X
  obtain ⟨t, st, q⟩ := k _ rfl T hT X
  refine ⟨t, ?_, q⟩
  have h1 := X.lastoreOut hexec (by rw [hT]; exact hP q0 _ ha) ((hK.2 t0 _ ht).1 n (fun j => .long (f j))) (j := i) (by show (i < 0 ∨ (arrV _ _ _).slots.size ≤ _); rw [arrV_size]; exact Classical.byContradiction hout) (g := F0 m pc ls (.long x :: .int i :: .ref a :: rest)) rfl (rest := rest) rfl (by rw [hb]; exact hdg) t
  simp only [arrV_size] at h1
  exact h1 st
theorem vx_faldZ {D : va_G} {cl : List vw_C} {ws : va_W} {tys : List (ClassId × FieldType)} {a : Nat} (hexec : p.tables.exec = Jvm.exec) (hb : c.code = cc) (hK : va_K D cl tys s) (hP : va_P D cl ws H) (q0 t0 : Nat) {cA : ClassId} {n : Nat} {f : Nat → UInt32} (ha : ws[q0]? = some (a, .inl (cA, n, .inr (.inr (.inl f))))) (ht : tys[t0]? = some (cA, .float)) {i : Int32} (hout : ¬ vp_in i n) (hdg : decode cc pc = .ok (.faload, 1))
    (k : ∀ tx : String, tx = (toString "Index " ++ toString i ++ toString " out of bounds for length " ++ toString n : String) → vx_Note p l e R s m args below meth c H locs cells slots Q (F0 m pc ls rest) "java/lang/ArrayIndexOutOfBoundsException" tx) : W p l e R s m args below meth c H locs cells slots Q (F0 m pc ls (.int i :: .ref a :: rest)) := by
  intro T hT X
  obtain ⟨t, st, q⟩ := k _ rfl T hT X
  refine ⟨t, ?_, q⟩
  have h1 := X.faloadOut hexec (by rw [hT]; exact hP q0 _ ha) ((hK.2 t0 _ ht).1 n (fun j => .float (f j))) (j := i) (by show (i < 0 ∨ (arrV _ _ _).slots.size ≤ _); rw [arrV_size]; exact Classical.byContradiction hout) (g := F0 m pc ls (.int i :: .ref a :: rest)) rfl (rest := rest) rfl (by rw [hb]; exact hdg) t
  simp only [arrV_size] at h1
  exact h1 st
theorem vx_fastZ {D : va_G} {cl : List vw_C} {ws : va_W} {tys : List (ClassId × FieldType)} {a : Nat} (hexec : p.tables.exec = Jvm.exec) (hb : c.code = cc) (hK : va_K D cl tys s) (hP : va_P D cl ws H) (q0 t0 : Nat) {cA : ClassId} {n : Nat} {f : Nat → UInt32} (ha : ws[q0]? = some (a, .inl (cA, n, .inr (.inr (.inl f))))) (ht : tys[t0]? = some (cA, .float)) {i : Int32} {x : UInt32} (hout : ¬ vp_in i n) (hdg : decode cc pc = .ok (.fastore, 1))
    (k : ∀ tx : String, tx = (toString "Index " ++ toString i ++ toString " out of bounds for length " ++ toString n : String) → vx_Note p l e R s m args below meth c H locs cells slots Q (F0 m pc ls rest) "java/lang/ArrayIndexOutOfBoundsException" tx) : W p l e R s m args below meth c H locs cells slots Q (F0 m pc ls (.float x :: .int i :: .ref a :: rest)) := by
  intro T hT X
  obtain ⟨t, st, q⟩ := k _ rfl T hT X
  refine ⟨t, ?_, q⟩
  have h1 := X.fastoreOut hexec (by rw [hT]; exact hP q0 _ ha) ((hK.2 t0 _ ht).1 n (fun j => .float (f j))) (j := i) (by show (i < 0 ∨ (arrV _ _ _).slots.size ≤ _); rw [arrV_size]; exact Classical.byContradiction hout) (g := F0 m pc ls (.float x :: .int i :: .ref a :: rest)) rfl (rest := rest) rfl (by rw [hb]; exact hdg) t
  simp only [arrV_size] at h1
  exact h1 st
theorem vx_daldZ {D : va_G} {cl : List vw_C} {ws : va_W} {tys : List (ClassId × FieldType)} {a : Nat} (hexec : p.tables.exec = Jvm.exec) (hb : c.code = cc) (hK : va_K D cl tys s) (hP : va_P D cl ws H) (q0 t0 : Nat) {cA : ClassId} {n : Nat} {f : Nat → UInt64} (ha : ws[q0]? = some (a, .inl (cA, n, .inr (.inr (.inr (.inl f)))))) (ht : tys[t0]? = some (cA, .double)) {i : Int32} (hout : ¬ vp_in i n) (hdg : decode cc pc = .ok (.daload, 1))
    (k : ∀ tx : String, tx = (toString "Index " ++ toString i ++ toString " out of bounds for length " ++ toString n : String) → vx_Note p l e R s m args below meth c H locs cells slots Q (F0 m pc ls rest) "java/lang/ArrayIndexOutOfBoundsException" tx) : W p l e R s m args below meth c H locs cells slots Q (F0 m pc ls (.int i :: .ref a :: rest)) := by
  intro T hT X
  obtain ⟨t, st, q⟩ := k _ rfl T hT X
  refine ⟨t, ?_, q⟩
  have h1 := X.daloadOut hexec (by rw [hT]; exact hP q0 _ ha) ((hK.2 t0 _ ht).1 n (fun j => .double (f j))) (j := i) (by show (i < 0 ∨ (arrV _ _ _).slots.size ≤ _); rw [arrV_size]; exact Classical.byContradiction hout) (g := F0 m pc ls (.int i :: .ref a :: rest)) rfl (rest := rest) rfl (by rw [hb]; exact hdg) t
  simp only [arrV_size] at h1
  exact h1 st
theorem vx_dastZ {D : va_G} {cl : List vw_C} {ws : va_W} {tys : List (ClassId × FieldType)} {a : Nat} (hexec : p.tables.exec = Jvm.exec) (hb : c.code = cc) (hK : va_K D cl tys s) (hP : va_P D cl ws H) (q0 t0 : Nat) {cA : ClassId} {n : Nat} {f : Nat → UInt64} (ha : ws[q0]? = some (a, .inl (cA, n, .inr (.inr (.inr (.inl f)))))) (ht : tys[t0]? = some (cA, .double)) {i : Int32} {x : UInt64} (hout : ¬ vp_in i n) (hdg : decode cc pc = .ok (.dastore, 1))
    (k : ∀ tx : String, tx = (toString "Index " ++ toString i ++ toString " out of bounds for length " ++ toString n : String) → vx_Note p l e R s m args below meth c H locs cells slots Q (F0 m pc ls rest) "java/lang/ArrayIndexOutOfBoundsException" tx) : W p l e R s m args below meth c H locs cells slots Q (F0 m pc ls (.double x :: .int i :: .ref a :: rest)) := by
  intro T hT X
  obtain ⟨t, st, q⟩ := k _ rfl T hT X
  refine ⟨t, ?_, q⟩
  have h1 := X.dastoreOut hexec (by rw [hT]; exact hP q0 _ ha) ((hK.2 t0 _ ht).1 n (fun j => .double (f j))) (j := i) (by show (i < 0 ∨ (arrV _ _ _).slots.size ≤ _); rw [arrV_size]; exact Classical.byContradiction hout) (g := F0 m pc ls (.double x :: .int i :: .ref a :: rest)) rfl (rest := rest) rfl (by rw [hb]; exact hdg) t
  simp only [arrV_size] at h1
  exact h1 st
theorem vx_arraylengthN (hexec : p.tables.exec = Jvm.exec) (hb : c.code = cc) (hdg : decode cc pc = .ok (.arraylength, 1)) (k : vx_NoteN p l e R s m args below meth c H locs cells slots Q (F0 m pc ls rest)) : W p l e R s m args below meth c H locs cells slots Q (F0 m pc ls (.null :: rest)) := by
  intro T hT X
  obtain ⟨t, st, q⟩ := k T hT X
  exact ⟨t, X.arraylengthNull hexec (g := F0 m pc ls (.null :: rest)) rfl (rest := rest) rfl (by rw [hb]; exact hdg) t st, q⟩
theorem vx_ialoadN (hexec : p.tables.exec = Jvm.exec) (hb : c.code = cc) {i : Int32} (hdg : decode cc pc = .ok (.iaload, 1)) (k : vx_NoteN p l e R s m args below meth c H locs cells slots Q (F0 m pc ls rest)) : W p l e R s m args below meth c H locs cells slots Q (F0 m pc ls (.int i :: .null :: rest)) := by
  intro T hT X
  obtain ⟨t, st, q⟩ := k T hT X
  exact ⟨t, X.ialoadNull hexec (g := F0 m pc ls (.int i :: .null :: rest)) rfl (rest := rest) rfl (by rw [hb]; exact hdg) t st, q⟩
theorem vx_laloadN (hexec : p.tables.exec = Jvm.exec) (hb : c.code = cc) {i : Int32} (hdg : decode cc pc = .ok (.laload, 1)) (k : vx_NoteN p l e R s m args below meth c H locs cells slots Q (F0 m pc ls rest)) : W p l e R s m args below meth c H locs cells slots Q (F0 m pc ls (.int i :: .null :: rest)) := by
  intro T hT X
  obtain ⟨t, st, q⟩ := k T hT X
  exact ⟨t, X.laloadNull hexec (g := F0 m pc ls (.int i :: .null :: rest)) rfl (rest := rest) rfl (by rw [hb]; exact hdg) t st, q⟩
theorem vx_faloadN (hexec : p.tables.exec = Jvm.exec) (hb : c.code = cc) {i : Int32} (hdg : decode cc pc = .ok (.faload, 1)) (k : vx_NoteN p l e R s m args below meth c H locs cells slots Q (F0 m pc ls rest)) : W p l e R s m args below meth c H locs cells slots Q (F0 m pc ls (.int i :: .null :: rest)) := by
  intro T hT X
  obtain ⟨t, st, q⟩ := k T hT X
  exact ⟨t, X.faloadNull hexec (g := F0 m pc ls (.int i :: .null :: rest)) rfl (rest := rest) rfl (by rw [hb]; exact hdg) t st, q⟩
theorem vx_daloadN (hexec : p.tables.exec = Jvm.exec) (hb : c.code = cc) {i : Int32} (hdg : decode cc pc = .ok (.daload, 1)) (k : vx_NoteN p l e R s m args below meth c H locs cells slots Q (F0 m pc ls rest)) : W p l e R s m args below meth c H locs cells slots Q (F0 m pc ls (.int i :: .null :: rest)) := by
  intro T hT X
  obtain ⟨t, st, q⟩ := k T hT X
  exact ⟨t, X.daloadNull hexec (g := F0 m pc ls (.int i :: .null :: rest)) rfl (rest := rest) rfl (by rw [hb]; exact hdg) t st, q⟩
theorem vx_aaloadN (hexec : p.tables.exec = Jvm.exec) (hb : c.code = cc) {i : Int32} (hdg : decode cc pc = .ok (.aaload, 1)) (k : vx_NoteN p l e R s m args below meth c H locs cells slots Q (F0 m pc ls rest)) : W p l e R s m args below meth c H locs cells slots Q (F0 m pc ls (.int i :: .null :: rest)) := by
  intro T hT X
  obtain ⟨t, st, q⟩ := k T hT X
  exact ⟨t, X.aaloadNull hexec (g := F0 m pc ls (.int i :: .null :: rest)) rfl (rest := rest) rfl (by rw [hb]; exact hdg) t st, q⟩
theorem vx_baloadN (hexec : p.tables.exec = Jvm.exec) (hb : c.code = cc) {i : Int32} (hdg : decode cc pc = .ok (.baload, 1)) (k : vx_NoteN p l e R s m args below meth c H locs cells slots Q (F0 m pc ls rest)) : W p l e R s m args below meth c H locs cells slots Q (F0 m pc ls (.int i :: .null :: rest)) := by
  intro T hT X
  obtain ⟨t, st, q⟩ := k T hT X
  exact ⟨t, X.baloadNull hexec (g := F0 m pc ls (.int i :: .null :: rest)) rfl (rest := rest) rfl (by rw [hb]; exact hdg) t st, q⟩
theorem vx_caloadN (hexec : p.tables.exec = Jvm.exec) (hb : c.code = cc) {i : Int32} (hdg : decode cc pc = .ok (.caload, 1)) (k : vx_NoteN p l e R s m args below meth c H locs cells slots Q (F0 m pc ls rest)) : W p l e R s m args below meth c H locs cells slots Q (F0 m pc ls (.int i :: .null :: rest)) := by
  intro T hT X
  obtain ⟨t, st, q⟩ := k T hT X
  exact ⟨t, X.caloadNull hexec (g := F0 m pc ls (.int i :: .null :: rest)) rfl (rest := rest) rfl (by rw [hb]; exact hdg) t st, q⟩
theorem vx_saloadN (hexec : p.tables.exec = Jvm.exec) (hb : c.code = cc) {i : Int32} (hdg : decode cc pc = .ok (.saload, 1)) (k : vx_NoteN p l e R s m args below meth c H locs cells slots Q (F0 m pc ls rest)) : W p l e R s m args below meth c H locs cells slots Q (F0 m pc ls (.int i :: .null :: rest)) := by
  intro T hT X
  obtain ⟨t, st, q⟩ := k T hT X
  exact ⟨t, X.saloadNull hexec (g := F0 m pc ls (.int i :: .null :: rest)) rfl (rest := rest) rfl (by rw [hb]; exact hdg) t st, q⟩
theorem vx_iastoreN (hexec : p.tables.exec = Jvm.exec) (hb : c.code = cc) {x : Int32} {i : Int32} (hdg : decode cc pc = .ok (.iastore, 1)) (k : vx_NoteN p l e R s m args below meth c H locs cells slots Q (F0 m pc ls rest)) : W p l e R s m args below meth c H locs cells slots Q (F0 m pc ls (.int x :: .int i :: .null :: rest)) := by
  intro T hT X
  obtain ⟨t, st, q⟩ := k T hT X
  exact ⟨t, X.iastoreNull hexec (g := F0 m pc ls (.int x :: .int i :: .null :: rest)) rfl (rest := rest) rfl (by rw [hb]; exact hdg) t st, q⟩
theorem vx_lastoreN (hexec : p.tables.exec = Jvm.exec) (hb : c.code = cc) {x : Int64} {i : Int32} (hdg : decode cc pc = .ok (.lastore, 1)) (k : vx_NoteN p l e R s m args below meth c H locs cells slots Q (F0 m pc ls rest)) : W p l e R s m args below meth c H locs cells slots Q (F0 m pc ls (.long x :: .int i :: .null :: rest)) := by
  intro T hT X
  obtain ⟨t, st, q⟩ := k T hT X
  exact ⟨t, X.lastoreNull hexec (g := F0 m pc ls (.long x :: .int i :: .null :: rest)) rfl (rest := rest) rfl (by rw [hb]; exact hdg) t st, q⟩
theorem vx_fastoreN (hexec : p.tables.exec = Jvm.exec) (hb : c.code = cc) {x : UInt32} {i : Int32} (hdg : decode cc pc = .ok (.fastore, 1)) (k : vx_NoteN p l e R s m args below meth c H locs cells slots Q (F0 m pc ls rest)) : W p l e R s m args below meth c H locs cells slots Q (F0 m pc ls (.float x :: .int i :: .null :: rest)) := by
  intro T hT X
  obtain ⟨t, st, q⟩ := k T hT X
  exact ⟨t, X.fastoreNull hexec (g := F0 m pc ls (.float x :: .int i :: .null :: rest)) rfl (rest := rest) rfl (by rw [hb]; exact hdg) t st, q⟩
theorem vx_dastoreN (hexec : p.tables.exec = Jvm.exec) (hb : c.code = cc) {x : UInt64} {i : Int32} (hdg : decode cc pc = .ok (.dastore, 1)) (k : vx_NoteN p l e R s m args below meth c H locs cells slots Q (F0 m pc ls rest)) : W p l e R s m args below meth c H locs cells slots Q (F0 m pc ls (.double x :: .int i :: .null :: rest)) := by
  intro T hT X
  obtain ⟨t, st, q⟩ := k T hT X
  exact ⟨t, X.dastoreNull hexec (g := F0 m pc ls (.double x :: .int i :: .null :: rest)) rfl (rest := rest) rfl (by rw [hb]; exact hdg) t st, q⟩
theorem vx_bastoreN (hexec : p.tables.exec = Jvm.exec) (hb : c.code = cc) {x : Int32} {i : Int32} (hdg : decode cc pc = .ok (.bastore, 1)) (k : vx_NoteN p l e R s m args below meth c H locs cells slots Q (F0 m pc ls rest)) : W p l e R s m args below meth c H locs cells slots Q (F0 m pc ls (.int x :: .int i :: .null :: rest)) := by
  intro T hT X
  obtain ⟨t, st, q⟩ := k T hT X
  exact ⟨t, X.bastoreNull hexec (g := F0 m pc ls (.int x :: .int i :: .null :: rest)) rfl (rest := rest) rfl (by rw [hb]; exact hdg) t st, q⟩
theorem vx_castoreN (hexec : p.tables.exec = Jvm.exec) (hb : c.code = cc) {x : Int32} {i : Int32} (hdg : decode cc pc = .ok (.castore, 1)) (k : vx_NoteN p l e R s m args below meth c H locs cells slots Q (F0 m pc ls rest)) : W p l e R s m args below meth c H locs cells slots Q (F0 m pc ls (.int x :: .int i :: .null :: rest)) := by
  intro T hT X
  obtain ⟨t, st, q⟩ := k T hT X
  exact ⟨t, X.castoreNull hexec (g := F0 m pc ls (.int x :: .int i :: .null :: rest)) rfl (rest := rest) rfl (by rw [hb]; exact hdg) t st, q⟩
theorem vx_sastoreN (hexec : p.tables.exec = Jvm.exec) (hb : c.code = cc) {x : Int32} {i : Int32} (hdg : decode cc pc = .ok (.sastore, 1)) (k : vx_NoteN p l e R s m args below meth c H locs cells slots Q (F0 m pc ls rest)) : W p l e R s m args below meth c H locs cells slots Q (F0 m pc ls (.int x :: .int i :: .null :: rest)) := by
  intro T hT X
  obtain ⟨t, st, q⟩ := k T hT X
  exact ⟨t, X.sastoreNull hexec (g := F0 m pc ls (.int x :: .int i :: .null :: rest)) rfl (rest := rest) rfl (by rw [hb]; exact hdg) t st, q⟩
theorem vx_invokeN {own C : String} {index maxL : Nat} {y : MethodName} {bytes : ByteArray} {ret : Option FieldType} (hexec : p.tables.exec = Jvm.exec) (hb : c.code = cc) (hown : s.vm.findClass own = some m.cls) (hlink : (Cond.methodLink own index y).before args s = true) (hinst : (Cond.instanceMethod y).before args s = true) (hcode : (Cond.code y bytes maxL ret).before args s = true) (hsel : (Cond.selects C y y).before args s = true)
    (hx : y.cls ≠ "java/lang/invoke/MethodHandle" ∧ y.cls ≠ "java/lang/invoke/VarHandle") {As : List Value} (hlen : (parseMethodDescriptor y.desc).map (fun d => d.parameters.length) = some As.length) (hdg : decode cc pc = .ok (.invokevirtual index, 3))
    (k : vx_NoteN p l e R s m args below meth c H locs cells slots Q (F0 m pc ls rest)) {st0 : List Value} (hst : st0 = As.reverse ++ .null :: rest) : W p l e R s m args below meth c H locs cells slots Q (F0 m pc ls st0) := by
  intro T hT X
  obtain ⟨r0, r, hn, hrm, hstR, hsigR⟩ := va_Decl.of hinst hcode
  obtain ⟨c2, r2, m2, q1, q2, q3, q4, kP, hkP, hkPi⟩ := Cond.selects_spec hsel
  cases hn.symm.trans q3
  have hl9 : As.length = r.sig.parameters.length := by
    rw [hsigR] at hlen
    exact (Option.some.inj hlen).symm
  obtain ⟨vm', X1, st1⟩ := X.invokevirtualNull hexec hown hlink hn hrm hstR hkP hkPi hx (g := F0 m pc ls st0) rfl (argsL := As) (rest := rest) hl9 hst (by rw [hb]; exact hdg)
  obtain ⟨t, st, q⟩ := k (T.setVm vm') hT X1
  exact ⟨t, st1 t st, q⟩
theorem vx_newarrayZ {atype : ArrayType} (hexec : p.tables.exec = Jvm.exec) (hb : c.code = cc) {n : Int32} (h0 : n < 0) (hdg : decode cc pc = .ok (.newarray atype, 2)) (k : ∀ tx : String, tx = toString n → vx_Note p l e R s m args below meth c H locs cells slots Q (F0 m pc ls rest) "java/lang/NegativeArraySizeException" tx) : W p l e R s m args below meth c H locs cells slots Q (F0 m pc ls (.int n :: rest)) := by
  intro T hT X
  obtain ⟨t, st, q⟩ := k _ rfl T hT X
  exact ⟨t, X.newarrayNegative hexec (g := F0 m pc ls (.int n :: rest)) rfl h0 (rest := rest) rfl (by rw [hb]; exact hdg) t st, q⟩
end
end VXM
/-! ===== END ===== -/
end
section
/-! ===== BEGIN printed: names, fields, word lists, decode rows ===== -/
def RX0 : String := "TurnEstimator"
def TX0 : u_T := fun k => match k with
  | 0 => ("TurnEstimator", "inflows", "[I", true)
  | 1 => ("TurnEstimator", "outflows", "[I", true)
  | 2 => ("TurnEstimator", "weights", "[I", true)
  | 3 => ("TurnEstimator", "estimates", "[D", true)
  | 4 => ("TurnEstimator", "targets", "[I", true)
  | 5 => ("TurnEstimator", "roundedTable", "[I", true)
  | 6 => ("TurnEstimator", "possibleTable", "[I", true)
  | 7 => ("TurnEstimator", "outflowsLeft", "[I", true)
  | 8 => ("TurnEstimator", "fractions", "[D", true)
  | 9 => ("TurnEstimator", "armCount", "I", false)
  | _ => ("TurnEstimator", "roundCount", "I", false)
def tyX0 : Nat → FieldType := fun k => match k with
  | 0 => .array .int
  | 1 => .array .int
  | 2 => .array .int
  | 3 => .array .double
  | 4 => .array .int
  | 5 => .array .int
  | 6 => .array .int
  | 7 => .array .int
  | 8 => .array .double
  | 9 => .int
  | _ => .int
abbrev wsX00 : List Cond := u_ws RX0 TX0 11
theorem nmX0 : ∀ a, a < 11 → ∀ b, b < 11 → a ≠ b → (TX0 a).2.1 ≠ (TX0 b).2.1 := by decide +kernel
theorem tyX0_ok : ∀ k, k < 11 → parseFieldDescriptor (TX0 k).2.2.1 = some (tyX0 k) := by decide +kernel
abbrev cX0_init : ByteArray := prog_1_method_1_code
def yX0_init : MethodName := ⟨RX0, "<init>", "()V"⟩
abbrev cX0_setArms : ByteArray := prog_1_method_2_code
def yX0_setArms : MethodName := ⟨RX0, "setArms", "(I)I"⟩
abbrev cX0_arms : ByteArray := prog_1_method_3_code
def yX0_arms : MethodName := ⟨RX0, "arms", "()I"⟩
abbrev cX0_setInflow : ByteArray := prog_1_method_4_code
def yX0_setInflow : MethodName := ⟨RX0, "setInflow", "(II)I"⟩
abbrev cX0_setOutflow : ByteArray := prog_1_method_5_code
def yX0_setOutflow : MethodName := ⟨RX0, "setOutflow", "(II)I"⟩
abbrev cX0_setWeight : ByteArray := prog_1_method_6_code
def yX0_setWeight : MethodName := ⟨RX0, "setWeight", "(III)I"⟩
abbrev cX0_scale : ByteArray := prog_1_method_7_code
def yX0_scale : MethodName := ⟨RX0, "scale", "(I)I"⟩
abbrev cX0_imbalance : ByteArray := prog_1_method_8_code
def yX0_imbalance : MethodName := ⟨RX0, "imbalance", "()I"⟩
abbrev cX0_isPossible : ByteArray := prog_1_method_9_code
def yX0_isPossible : MethodName := ⟨RX0, "isPossible", "()Z"⟩
abbrev cX0_crowdedSet : ByteArray := prog_1_method_10_code
def yX0_crowdedSet : MethodName := ⟨RX0, "crowdedSet", "()I"⟩
abbrev cX0_excess : ByteArray := prog_1_method_11_code
def yX0_excess : MethodName := ⟨RX0, "excess", "(I)I"⟩
abbrev cX0_iterate : ByteArray := prog_1_method_12_code
def yX0_iterate : MethodName := ⟨RX0, "iterate", "(I)I"⟩
abbrev cX0_fit : ByteArray := prog_1_method_13_code
def yX0_fit : MethodName := ⟨RX0, "fit", "(II)I"⟩
abbrev cX0_reset : ByteArray := prog_1_method_14_code
def yX0_reset : MethodName := ⟨RX0, "reset", "()I"⟩
abbrev cX0_rounds : ByteArray := prog_1_method_15_code
def yX0_rounds : MethodName := ⟨RX0, "rounds", "()I"⟩
abbrev cX0_estimate : ByteArray := prog_1_method_16_code
def yX0_estimate : MethodName := ⟨RX0, "estimate", "(II)D"⟩
abbrev cX0_sum : ByteArray := prog_1_method_17_code
def yX0_sum : MethodName := ⟨RX0, "sum", "(IZ)D"⟩
abbrev cX0_misfit : ByteArray := prog_1_method_18_code
def yX0_misfit : MethodName := ⟨RX0, "misfit", "()D"⟩
abbrev cX0_share : ByteArray := prog_1_method_19_code
def yX0_share : MethodName := ⟨RX0, "share", "(II)D"⟩
abbrev cX0_crossRatio : ByteArray := prog_1_method_20_code
def yX0_crossRatio : MethodName := ⟨RX0, "crossRatio", "(IIII)D"⟩
abbrev cX0_busiestTurn : ByteArray := prog_1_method_21_code
def yX0_busiestTurn : MethodName := ⟨RX0, "busiestTurn", "()I"⟩
abbrev cX0_rounded : ByteArray := prog_1_method_22_code
def yX0_rounded : MethodName := ⟨RX0, "rounded", "(II)I"⟩
abbrev cX0_roundedMisfit : ByteArray := prog_1_method_23_code
def yX0_roundedMisfit : MethodName := ⟨RX0, "roundedMisfit", "()I"⟩
abbrev cX0_possible : ByteArray := prog_1_method_24_code
def yX0_possible : MethodName := ⟨RX0, "possible", "(II)I"⟩
abbrev cX0_digest : ByteArray := prog_1_method_25_code
def yX0_digest : MethodName := ⟨RX0, "digest", "()J"⟩
abbrev cX0_requireArm : ByteArray := prog_1_method_26_code
def yX0_requireArm : MethodName := ⟨RX0, "requireArm", "(I)V"⟩
abbrev cX0_requireWithin : ByteArray := prog_1_method_27_code
def yX0_requireWithin : MethodName := ⟨RX0, "requireWithin", "(III)V"⟩
abbrev cX0_requireScalable : ByteArray := prog_1_method_28_code
def yX0_requireScalable : MethodName := ⟨RX0, "requireScalable", "(II)V"⟩
abbrev cX0_turn : ByteArray := prog_1_method_29_code
def yX0_turn : MethodName := ⟨RX0, "turn", "(II)I"⟩
abbrev cX0_allArms : ByteArray := prog_1_method_30_code
def yX0_allArms : MethodName := ⟨RX0, "allArms", "()I"⟩
abbrev cX0_contains : ByteArray := prog_1_method_31_code
def yX0_contains : MethodName := ⟨RX0, "contains", "(II)Z"⟩
abbrev cX0_isOpen : ByteArray := prog_1_method_32_code
def yX0_isOpen : MethodName := ⟨RX0, "isOpen", "(II)Z"⟩
abbrev cX0_beginJunction : ByteArray := prog_1_method_33_code
def yX0_beginJunction : MethodName := ⟨RX0, "beginJunction", "(I)V"⟩
abbrev cX0_putWeight : ByteArray := prog_1_method_34_code
def yX0_putWeight : MethodName := ⟨RX0, "putWeight", "(III)V"⟩
abbrev cX0_setCount : ByteArray := prog_1_method_35_code
def yX0_setCount : MethodName := ⟨RX0, "setCount", "([III)I"⟩
abbrev cX0_scaled : ByteArray := prog_1_method_36_code
def yX0_scaled : MethodName := ⟨RX0, "scaled", "(II)I"⟩
abbrev cX0_total : ByteArray := prog_1_method_37_code
def yX0_total : MethodName := ⟨RX0, "total", "([I)I"⟩
abbrev cX0_reachedFrom : ByteArray := prog_1_method_38_code
def yX0_reachedFrom : MethodName := ⟨RX0, "reachedFrom", "(I)I"⟩
abbrev cX0_excessOver : ByteArray := prog_1_method_39_code
def yX0_excessOver : MethodName := ⟨RX0, "excessOver", "(I[I)I"⟩
abbrev cX0_fillPossibleTable : ByteArray := prog_1_method_40_code
def yX0_fillPossibleTable : MethodName := ⟨RX0, "fillPossibleTable", "()V"⟩
abbrev cX0_greatestPossible : ByteArray := prog_1_method_41_code
def yX0_greatestPossible : MethodName := ⟨RX0, "greatestPossible", "(III)I"⟩
abbrev cX0_resetEstimate : ByteArray := prog_1_method_42_code
def yX0_resetEstimate : MethodName := ⟨RX0, "resetEstimate", "()V"⟩
abbrev cX0_rowSum : ByteArray := prog_1_method_43_code
def yX0_rowSum : MethodName := ⟨RX0, "rowSum", "(I)D"⟩
abbrev cX0_columnSum : ByteArray := prog_1_method_44_code
def yX0_columnSum : MethodName := ⟨RX0, "columnSum", "(I)D"⟩
abbrev cX0_carryOutRound : ByteArray := prog_1_method_45_code
def yX0_carryOutRound : MethodName := ⟨RX0, "carryOutRound", "()V"⟩
abbrev cX0_carryOutRowStep : ByteArray := prog_1_method_46_code
def yX0_carryOutRowStep : MethodName := ⟨RX0, "carryOutRowStep", "(I)V"⟩
abbrev cX0_carryOutColumnStep : ByteArray := prog_1_method_47_code
def yX0_carryOutColumnStep : MethodName := ⟨RX0, "carryOutColumnStep", "(I)V"⟩
abbrev cX0_distance : ByteArray := prog_1_method_48_code
def yX0_distance : MethodName := ⟨RX0, "distance", "(DD)D"⟩
abbrev cX0_roundAllRows : ByteArray := prog_1_method_49_code
def yX0_roundAllRows : MethodName := ⟨RX0, "roundAllRows", "()V"⟩
abbrev cX0_roundRow : ByteArray := prog_1_method_50_code
def yX0_roundRow : MethodName := ⟨RX0, "roundRow", "(I)V"⟩
abbrev cX0_raiseGreatestFractions : ByteArray := prog_1_method_51_code
def yX0_raiseGreatestFractions : MethodName := ⟨RX0, "raiseGreatestFractions", "(II)V"⟩
abbrev cX0_greatestFraction : ByteArray := prog_1_method_52_code
def yX0_greatestFraction : MethodName := ⟨RX0, "greatestFraction", "(I)I"⟩
abbrev cX0_roundedDifference : ByteArray := prog_1_method_53_code
def yX0_roundedDifference : MethodName := ⟨RX0, "roundedDifference", "()I"⟩
abbrev cX0_mixed : ByteArray := prog_1_method_54_code
def yX0_mixed : MethodName := ⟨RX0, "mixed", "(JJ)J"⟩
abbrev cX0_mixedTurn : ByteArray := prog_1_method_55_code
def yX0_mixedTurn : MethodName := ⟨RX0, "mixedTurn", "(JI)J"⟩
abbrev cX0_thousandthsOf : ByteArray := prog_1_method_56_code
def yX0_thousandthsOf : MethodName := ⟨RX0, "thousandthsOf", "(D)J"⟩
def RX1 : String := "TurnEstimatorModel"
def TX1 : u_T := fun k => match k with
  | 0 => ("TurnEstimatorModel", "thrown", "I", false)
  | 1 => ("TurnEstimatorModel", "arms", "I", false)
  | 2 => ("TurnEstimatorModel", "inflow", "[I", true)
  | 3 => ("TurnEstimatorModel", "outflow", "[I", true)
  | 4 => ("TurnEstimatorModel", "weights", "[I", true)
  | 5 => ("TurnEstimatorModel", "estimates", "[D", true)
  | 6 => ("TurnEstimatorModel", "roundsDone", "I", false)
  | 7 => ("TurnEstimatorModel", "whole", "[I", true)
  | 8 => ("TurnEstimatorModel", "fraction", "[D", true)
  | 9 => ("TurnEstimatorModel", "table", "[I", true)
  | 10 => ("TurnEstimatorModel", "rowLeft", "[I", true)
  | 11 => ("TurnEstimatorModel", "columnLeft", "[I", true)
  | _ => ("TurnEstimatorModel", "h", "J", false)
def tyX1 : Nat → FieldType := fun k => match k with
  | 0 => .int
  | 1 => .int
  | 2 => .array .int
  | 3 => .array .int
  | 4 => .array .int
  | 5 => .array .double
  | 6 => .int
  | 7 => .array .int
  | 8 => .array .double
  | 9 => .array .int
  | 10 => .array .int
  | 11 => .array .int
  | _ => .long
abbrev wsX10 : List Cond := u_ws RX1 TX1 13
theorem nmX1 : ∀ a, a < 13 → ∀ b, b < 13 → a ≠ b → (TX1 a).2.1 ≠ (TX1 b).2.1 := by decide +kernel
theorem tyX1_ok : ∀ k, k < 13 → parseFieldDescriptor (TX1 k).2.2.1 = some (tyX1 k) := by decide +kernel
abbrev cX1_init : ByteArray := prog_3_method_1_code
def yX1_init : MethodName := ⟨RX1, "<init>", "()V"⟩
abbrev cX1_thrown : ByteArray := prog_3_method_2_code
def yX1_thrown : MethodName := ⟨RX1, "thrown", "()I"⟩
abbrev cX1_within : ByteArray := prog_3_method_3_code
def yX1_within : MethodName := ⟨RX1, "within", "(III)Z"⟩
abbrev cX1_isArm : ByteArray := prog_3_method_4_code
def yX1_isArm : MethodName := ⟨RX1, "isArm", "(I)Z"⟩
abbrev cX1_layWeights : ByteArray := prog_3_method_5_code
def yX1_layWeights : MethodName := ⟨RX1, "layWeights", "()V"⟩
abbrev cX1_begin : ByteArray := prog_3_method_6_code
def yX1_begin : MethodName := ⟨RX1, "begin", "()V"⟩
abbrev cX1_setArms : ByteArray := prog_3_method_7_code
def yX1_setArms : MethodName := ⟨RX1, "setArms", "(I)I"⟩
abbrev cX1_arms : ByteArray := prog_3_method_8_code
def yX1_arms : MethodName := ⟨RX1, "arms", "()I"⟩
abbrev cX1_setInflow : ByteArray := prog_3_method_9_code
def yX1_setInflow : MethodName := ⟨RX1, "setInflow", "(II)I"⟩
abbrev cX1_setOutflow : ByteArray := prog_3_method_10_code
def yX1_setOutflow : MethodName := ⟨RX1, "setOutflow", "(II)I"⟩
abbrev cX1_setWeight : ByteArray := prog_3_method_11_code
def yX1_setWeight : MethodName := ⟨RX1, "setWeight", "(III)I"⟩
abbrev cX1_scaled : ByteArray := prog_3_method_12_code
def yX1_scaled : MethodName := ⟨RX1, "scaled", "(II)I"⟩
abbrev cX1_isScalable : ByteArray := prog_3_method_13_code
def yX1_isScalable : MethodName := ⟨RX1, "isScalable", "(I)Z"⟩
abbrev cX1_scale : ByteArray := prog_3_method_14_code
def yX1_scale : MethodName := ⟨RX1, "scale", "(I)I"⟩
abbrev cX1_difference : ByteArray := prog_3_method_15_code
def yX1_difference : MethodName := ⟨RX1, "difference", "()I"⟩
abbrev cX1_imbalance : ByteArray := prog_3_method_16_code
def yX1_imbalance : MethodName := ⟨RX1, "imbalance", "()I"⟩
abbrev cX1_excessOf : ByteArray := prog_3_method_17_code
def yX1_excessOf : MethodName := ⟨RX1, "excessOf", "(I)I"⟩
abbrev cX1_crowded : ByteArray := prog_3_method_18_code
def yX1_crowded : MethodName := ⟨RX1, "crowded", "()I"⟩
abbrev cX1_arePossible : ByteArray := prog_3_method_19_code
def yX1_arePossible : MethodName := ⟨RX1, "arePossible", "()Z"⟩
abbrev cX1_isPossible : ByteArray := prog_3_method_20_code
def yX1_isPossible : MethodName := ⟨RX1, "isPossible", "()Z"⟩
abbrev cX1_crowdedSet : ByteArray := prog_3_method_21_code
def yX1_crowdedSet : MethodName := ⟨RX1, "crowdedSet", "()I"⟩
abbrev cX1_excess : ByteArray := prog_3_method_22_code
def yX1_excess : MethodName := ⟨RX1, "excess", "(I)I"⟩
abbrev cX1_rowSum : ByteArray := prog_3_method_23_code
def yX1_rowSum : MethodName := ⟨RX1, "rowSum", "(I)D"⟩
abbrev cX1_columnSum : ByteArray := prog_3_method_24_code
def yX1_columnSum : MethodName := ⟨RX1, "columnSum", "(I)D"⟩
abbrev cX1_rowStep : ByteArray := prog_3_method_25_code
def yX1_rowStep : MethodName := ⟨RX1, "rowStep", "(I)V"⟩
abbrev cX1_columnStep : ByteArray := prog_3_method_26_code
def yX1_columnStep : MethodName := ⟨RX1, "columnStep", "(I)V"⟩
abbrev cX1_oneRound : ByteArray := prog_3_method_27_code
def yX1_oneRound : MethodName := ⟨RX1, "oneRound", "()V"⟩
abbrev cX1_far : ByteArray := prog_3_method_28_code
def yX1_far : MethodName := ⟨RX1, "far", "(DD)D"⟩
abbrev cX1_misfitNow : ByteArray := prog_3_method_29_code
def yX1_misfitNow : MethodName := ⟨RX1, "misfitNow", "()D"⟩
abbrev cX1_iterate : ByteArray := prog_3_method_30_code
def yX1_iterate : MethodName := ⟨RX1, "iterate", "(I)I"⟩
abbrev cX1_fit : ByteArray := prog_3_method_31_code
def yX1_fit : MethodName := ⟨RX1, "fit", "(II)I"⟩
abbrev cX1_reset : ByteArray := prog_3_method_32_code
def yX1_reset : MethodName := ⟨RX1, "reset", "()I"⟩
abbrev cX1_rounds : ByteArray := prog_3_method_33_code
def yX1_rounds : MethodName := ⟨RX1, "rounds", "()I"⟩
abbrev cX1_areArms : ByteArray := prog_3_method_34_code
def yX1_areArms : MethodName := ⟨RX1, "areArms", "(II)Z"⟩
abbrev cX1_estimate : ByteArray := prog_3_method_35_code
def yX1_estimate : MethodName := ⟨RX1, "estimate", "(II)D"⟩
abbrev cX1_sum : ByteArray := prog_3_method_36_code
def yX1_sum : MethodName := ⟨RX1, "sum", "(IZ)D"⟩
abbrev cX1_misfit : ByteArray := prog_3_method_37_code
def yX1_misfit : MethodName := ⟨RX1, "misfit", "()D"⟩
abbrev cX1_share : ByteArray := prog_3_method_38_code
def yX1_share : MethodName := ⟨RX1, "share", "(II)D"⟩
abbrev cX1_crossRatio : ByteArray := prog_3_method_39_code
def yX1_crossRatio : MethodName := ⟨RX1, "crossRatio", "(IIII)D"⟩
abbrev cX1_busiest : ByteArray := prog_3_method_40_code
def yX1_busiest : MethodName := ⟨RX1, "busiest", "()I"⟩
abbrev cX1_busiestTurn : ByteArray := prog_3_method_41_code
def yX1_busiestTurn : MethodName := ⟨RX1, "busiestTurn", "()I"⟩
abbrev cX1_nextOf : ByteArray := prog_3_method_42_code
def yX1_nextOf : MethodName := ⟨RX1, "nextOf", "(I)I"⟩
abbrev cX1_roundRow : ByteArray := prog_3_method_43_code
def yX1_roundRow : MethodName := ⟨RX1, "roundRow", "(I)V"⟩
abbrev cX1_layWhole : ByteArray := prog_3_method_44_code
def yX1_layWhole : MethodName := ⟨RX1, "layWhole", "()V"⟩
abbrev cX1_rounded : ByteArray := prog_3_method_45_code
def yX1_rounded : MethodName := ⟨RX1, "rounded", "(II)I"⟩
abbrev cX1_wholeMisfit : ByteArray := prog_3_method_46_code
def yX1_wholeMisfit : MethodName := ⟨RX1, "wholeMisfit", "()I"⟩
abbrev cX1_roundedMisfit : ByteArray := prog_3_method_47_code
def yX1_roundedMisfit : MethodName := ⟨RX1, "roundedMisfit", "()I"⟩
abbrev cX1_leftBy : ByteArray := prog_3_method_48_code
def yX1_leftBy : MethodName := ⟨RX1, "leftBy", "(II)I"⟩
abbrev cX1_layCell : ByteArray := prog_3_method_49_code
def yX1_layCell : MethodName := ⟨RX1, "layCell", "(II)V"⟩
abbrev cX1_layTable : ByteArray := prog_3_method_50_code
def yX1_layTable : MethodName := ⟨RX1, "layTable", "()V"⟩
abbrev cX1_possibleNow : ByteArray := prog_3_method_51_code
def yX1_possibleNow : MethodName := ⟨RX1, "possibleNow", "(II)I"⟩
abbrev cX1_possible : ByteArray := prog_3_method_52_code
def yX1_possible : MethodName := ⟨RX1, "possible", "(II)I"⟩
abbrev cX1_mix : ByteArray := prog_3_method_53_code
def yX1_mix : MethodName := ⟨RX1, "mix", "(J)V"⟩
abbrev cX1_mixTurns : ByteArray := prog_3_method_54_code
def yX1_mixTurns : MethodName := ⟨RX1, "mixTurns", "()V"⟩
abbrev cX1_digest : ByteArray := prog_3_method_55_code
def yX1_digest : MethodName := ⟨RX1, "digest", "()J"⟩
def RJx00060 : String := "java/lang/ArrayIndexOutOfBoundsException"
def TJx00060 : u_T := fun k => match k with
  | 0 => ("java/lang/Throwable", "backtrace", "Ljava/lang/Object;", false)
  | 1 => ("java/lang/Throwable", "detailMessage", "Ljava/lang/String;", false)
  | 2 => ("java/lang/Throwable", "cause", "Ljava/lang/Throwable;", false)
  | 3 => ("java/lang/Throwable", "stackTrace", "[Ljava/lang/StackTraceElement;", false)
  | 4 => ("java/lang/Throwable", "depth", "I", false)
  | _ => ("java/lang/Throwable", "suppressedExceptions", "Ljava/util/List;", false)
def tyJx00060 : Nat → FieldType := fun k => match k with
  | 0 => .object "java/lang/Object"
  | 1 => .object "java/lang/String"
  | 2 => .object "java/lang/Throwable"
  | 3 => .array (.object "java/lang/StackTraceElement")
  | 4 => .int
  | _ => .object "java/util/List"
abbrev wsJx000600 : List Cond := u_ws RJx00060 TJx00060 6
theorem nmJx00060 : ∀ a, a < 6 → ∀ b, b < 6 → a ≠ b → (TJx00060 a).2.1 ≠ (TJx00060 b).2.1 := by decide +kernel
theorem tyJx00060_ok : ∀ k, k < 6 → parseFieldDescriptor (TJx00060 k).2.2.1 = some (tyJx00060 k) := by decide +kernel
abbrev cJx00060_init_a7421 : ByteArray := prog_5_method_2_code
def yJx00060_init_a7421 : MethodName := ⟨RJx00060, "<init>", "(Ljava/lang/String;)V"⟩
def RJ9 : String := "java/lang/Math"
def TJ9 : u_T := fun k => match k with
  | _ => ("", "", "", false)
def tyJ9 : Nat → FieldType := fun k => match k with
  | _ => .int
abbrev wsJ90 : List Cond := u_ws RJ9 TJ9 0
theorem nmJ9 : ∀ a, a < 0 → ∀ b, b < 0 → a ≠ b → (TJ9 a).2.1 ≠ (TJ9 b).2.1 := by decide +kernel
theorem tyJ9_ok : ∀ k, k < 0 → parseFieldDescriptor (TJ9 k).2.2.1 = some (tyJ9 k) := by decide +kernel
abbrev cJ9_abs_0f7a4 : ByteArray := prog_10_method_59_code
def yJ9_abs_0f7a4 : MethodName := ⟨RJ9, "abs", "(I)I"⟩
abbrev cJ9_min_7cf53 : ByteArray := prog_10_method_69_code
def yJ9_min_7cf53 : MethodName := ⟨RJ9, "min", "(II)I"⟩
def RJ0 : String := "java/lang/String"
def TJ0 : u_T := fun k => match k with
  | 0 => ("java/lang/String", "value", "[B", true)
  | _ => ("java/lang/String", "coder", "B", true)
def tyJ0 : Nat → FieldType := fun k => match k with
  | 0 => .array .byte
  | _ => .byte
abbrev wsJ00 : List Cond := u_ws RJ0 TJ0 2
theorem nmJ0 : ∀ a, a < 2 → ∀ b, b < 2 → a ≠ b → (TJ0 a).2.1 ≠ (TJ0 b).2.1 := by decide +kernel
theorem tyJ0_ok : ∀ k, k < 2 → parseFieldDescriptor (TJ0 k).2.2.1 = some (tyJ0 k) := by decide +kernel
def RJ10 : String := "java/lang/System"
def TJ10 : u_T := fun k => match k with
  | _ => ("", "", "", false)
def tyJ10 : Nat → FieldType := fun k => match k with
  | _ => .int
abbrev wsJ100 : List Cond := u_ws RJ10 TJ10 0
theorem nmJ10 : ∀ a, a < 0 → ∀ b, b < 0 → a ≠ b → (TJ10 a).2.1 ≠ (TJ10 b).2.1 := by decide +kernel
theorem tyJ10_ok : ∀ k, k < 0 → parseFieldDescriptor (TJ10 k).2.2.1 = some (tyJ10 k) := by decide +kernel
def RL : String := "TurnEstimatorLaw"
abbrev cL_setArms : ByteArray := method_3_code
def yL_setArms : MethodName := ⟨RL, "setArms", "(LTurnEstimator;I[J)I"⟩
abbrev cL_setInflow : ByteArray := method_4_code
def yL_setInflow : MethodName := ⟨RL, "setInflow", "(LTurnEstimator;II[J)I"⟩
abbrev cL_setOutflow : ByteArray := method_5_code
def yL_setOutflow : MethodName := ⟨RL, "setOutflow", "(LTurnEstimator;II[J)I"⟩
abbrev cL_setWeight : ByteArray := method_6_code
def yL_setWeight : MethodName := ⟨RL, "setWeight", "(LTurnEstimator;III[J)I"⟩
abbrev cL_scale : ByteArray := method_7_code
def yL_scale : MethodName := ⟨RL, "scale", "(LTurnEstimator;I[J)I"⟩
abbrev cL_excess : ByteArray := method_8_code
def yL_excess : MethodName := ⟨RL, "excess", "(LTurnEstimator;I[J)I"⟩
abbrev cL_iterate : ByteArray := method_9_code
def yL_iterate : MethodName := ⟨RL, "iterate", "(LTurnEstimator;I[J)I"⟩
abbrev cL_fit : ByteArray := method_10_code
def yL_fit : MethodName := ⟨RL, "fit", "(LTurnEstimator;II[J)I"⟩
abbrev cL_estimate : ByteArray := method_11_code
def yL_estimate : MethodName := ⟨RL, "estimate", "(LTurnEstimator;II[D)I"⟩
abbrev cL_sum : ByteArray := method_12_code
def yL_sum : MethodName := ⟨RL, "sum", "(LTurnEstimator;IZ[D)I"⟩
abbrev cL_share : ByteArray := method_13_code
def yL_share : MethodName := ⟨RL, "share", "(LTurnEstimator;II[D)I"⟩
abbrev cL_crossRatio : ByteArray := method_14_code
def yL_crossRatio : MethodName := ⟨RL, "crossRatio", "(LTurnEstimator;IIII[D)I"⟩
abbrev cL_rounded : ByteArray := method_15_code
def yL_rounded : MethodName := ⟨RL, "rounded", "(LTurnEstimator;II[J)I"⟩
abbrev cL_possible : ByteArray := method_16_code
def yL_possible : MethodName := ⟨RL, "possible", "(LTurnEstimator;II[J)I"⟩
abbrev cL_law : ByteArray := code
def yL_law : MethodName := ⟨RL, "law", "([I)Z"⟩
def wsX0_turn : List Cond := .code yX0_turn cX0_turn 2 (some .int) :: ([])
def wsX0_putWeight : List Cond := .code yX0_putWeight cX0_putWeight 4 none :: ([.fieldLink RX0 16 "TurnEstimator" "weights" "[I", .fieldLink RX0 23 "TurnEstimator" "targets" "[I", .methodLink RX0 57 yX0_turn, .static yX0_turn, .initialized RX0, .code yX0_turn cX0_turn 2 (some .int)] ++ wsX00 ++ (vx_atM "java/lang/ArrayIndexOutOfBoundsException" ["java/lang/IndexOutOfBoundsException", "java/lang/RuntimeException", "java/lang/Exception"]).filter goodWord)
def wsX0_resetEstimate : List Cond := .code yX0_resetEstimate cX0_resetEstimate 3 none :: ([.fieldLink RX0 46 "TurnEstimator" "armCount" "I", .fieldLink RX0 19 "TurnEstimator" "estimates" "[D", .fieldLink RX0 16 "TurnEstimator" "weights" "[I", .fieldLink RX0 95 "TurnEstimator" "roundCount" "I", .methodLink RX0 57 yX0_turn, .static yX0_turn, .initialized RX0, .code yX0_turn cX0_turn 2 (some .int)] ++ wsX00 ++ (vx_atM "java/lang/ArrayIndexOutOfBoundsException" ["java/lang/IndexOutOfBoundsException", "java/lang/RuntimeException", "java/lang/Exception"]).filter goodWord)
def wsX0_beginJunction : List Cond := .code yX0_beginJunction cX0_beginJunction 4 none :: ([.fieldLink RX0 46 "TurnEstimator" "armCount" "I", .fieldLink RX0 9 "TurnEstimator" "inflows" "[I", .fieldLink RX0 13 "TurnEstimator" "outflows" "[I", .fieldLink RX0 23 "TurnEstimator" "targets" "[I", .methodLink RX0 61 yX0_putWeight, .instanceMethod yX0_putWeight, .selects RX0 yX0_putWeight yX0_putWeight, .initialized RX0, .code yX0_putWeight cX0_putWeight 4 none, .fieldLink RX0 16 "TurnEstimator" "weights" "[I", .methodLink RX0 57 yX0_turn, .static yX0_turn, .code yX0_turn cX0_turn 2 (some .int), .methodLink RX0 64 yX0_resetEstimate, .instanceMethod yX0_resetEstimate, .selects RX0 yX0_resetEstimate yX0_resetEstimate, .code yX0_resetEstimate cX0_resetEstimate 3 none, .fieldLink RX0 19 "TurnEstimator" "estimates" "[D", .fieldLink RX0 95 "TurnEstimator" "roundCount" "I"] ++ wsX00 ++ (vx_atM "java/lang/ArrayIndexOutOfBoundsException" ["java/lang/IndexOutOfBoundsException", "java/lang/RuntimeException", "java/lang/Exception"]).filter goodWord)
def wsX0_init_r1 : List Cond := [Cond.methodLink RX0 1 objectInit, Cond.instanceMethod objectInit, Cond.code objectInit ⟨#[0xb1]⟩ 1 none, Cond.arrayClass .int, Cond.fieldLink RX0 9 "TurnEstimator" "inflows" "[I", Cond.fieldLink RX0 13 "TurnEstimator" "outflows" "[I", Cond.fieldLink RX0 16 "TurnEstimator" "weights" "[I", Cond.arrayClass .double, Cond.fieldLink RX0 19 "TurnEstimator" "estimates" "[D", Cond.fieldLink RX0 23 "TurnEstimator" "targets" "[I", Cond.fieldLink RX0 26 "TurnEstimator" "roundedTable" "[I", Cond.fieldLink RX0 29 "TurnEstimator" "possibleTable" "[I", Cond.fieldLink RX0 32 "TurnEstimator" "outflowsLeft" "[I", Cond.fieldLink RX0 35 "TurnEstimator" "fractions" "[D", Cond.methodLink RX0 38 yX0_beginJunction, Cond.instanceMethod yX0_beginJunction, Cond.selects RX0 yX0_beginJunction yX0_beginJunction, Cond.initialized RX0, Cond.code yX0_beginJunction cX0_beginJunction 4 none, Cond.fieldLink RX0 46 "TurnEstimator" "armCount" "I", Cond.methodLink RX0 61 yX0_putWeight, Cond.instanceMethod yX0_putWeight, Cond.selects RX0 yX0_putWeight yX0_putWeight, Cond.code yX0_putWeight cX0_putWeight 4 none]
def wsX0_init_r2 : List Cond := [Cond.methodLink RX0 57 yX0_turn, Cond.static yX0_turn, Cond.code yX0_turn cX0_turn 2 (some .int), Cond.methodLink RX0 64 yX0_resetEstimate, Cond.instanceMethod yX0_resetEstimate, Cond.selects RX0 yX0_resetEstimate yX0_resetEstimate, Cond.code yX0_resetEstimate cX0_resetEstimate 3 none, Cond.fieldLink RX0 95 "TurnEstimator" "roundCount" "I"]
def wsX0_init : List Cond := .code yX0_init cX0_init 1 none :: ((wsX0_init_r1 ++ wsX0_init_r2) ++ wsX00 ++ (vx_atM "java/lang/ArrayIndexOutOfBoundsException" ["java/lang/IndexOutOfBoundsException", "java/lang/RuntimeException", "java/lang/Exception"]).filter goodWord)
def wsX0_requireWithin : List Cond := .code yX0_requireWithin cX0_requireWithin 3 none :: ([.classLink RX0 157 "java/lang/IllegalArgumentException", .initialized "java/lang/IllegalArgumentException"] ++ (vx_atS RX0 161 "java/lang/IllegalArgumentException" ["java/lang/RuntimeException", "java/lang/Exception"]).filter goodWord)
def wsX0_setArms_r1 : List Cond := [Cond.fieldLink RX0 46 "TurnEstimator" "armCount" "I", Cond.methodLink RX0 42 yX0_requireWithin, Cond.static yX0_requireWithin, Cond.initialized RX0, Cond.code yX0_requireWithin cX0_requireWithin 3 none, Cond.classLink RX0 157 "java/lang/IllegalArgumentException", Cond.initialized "java/lang/IllegalArgumentException", Cond.methodLink RX0 38 yX0_beginJunction, Cond.instanceMethod yX0_beginJunction, Cond.selects RX0 yX0_beginJunction yX0_beginJunction, Cond.code yX0_beginJunction cX0_beginJunction 4 none, Cond.fieldLink RX0 9 "TurnEstimator" "inflows" "[I", Cond.fieldLink RX0 13 "TurnEstimator" "outflows" "[I", Cond.fieldLink RX0 23 "TurnEstimator" "targets" "[I", Cond.methodLink RX0 61 yX0_putWeight, Cond.instanceMethod yX0_putWeight, Cond.selects RX0 yX0_putWeight yX0_putWeight, Cond.code yX0_putWeight cX0_putWeight 4 none, Cond.fieldLink RX0 16 "TurnEstimator" "weights" "[I", Cond.methodLink RX0 57 yX0_turn, Cond.static yX0_turn, Cond.code yX0_turn cX0_turn 2 (some .int), Cond.methodLink RX0 64 yX0_resetEstimate, Cond.instanceMethod yX0_resetEstimate]
def wsX0_setArms_r2 : List Cond := [Cond.selects RX0 yX0_resetEstimate yX0_resetEstimate, Cond.code yX0_resetEstimate cX0_resetEstimate 3 none, Cond.fieldLink RX0 19 "TurnEstimator" "estimates" "[D", Cond.fieldLink RX0 95 "TurnEstimator" "roundCount" "I"]
def wsX0_setArms : List Cond := .code yX0_setArms cX0_setArms 3 (some .int) :: ((wsX0_setArms_r1 ++ wsX0_setArms_r2) ++ wsX00 ++ (vx_atS RX0 161 "java/lang/IllegalArgumentException" ["java/lang/RuntimeException", "java/lang/Exception"]).filter goodWord ++ (vx_atM "java/lang/ArrayIndexOutOfBoundsException" ["java/lang/IndexOutOfBoundsException", "java/lang/RuntimeException", "java/lang/Exception"]).filter goodWord)
def wsX0_arms : List Cond := .code yX0_arms cX0_arms 1 (some .int) :: ([.fieldLink RX0 46 "TurnEstimator" "armCount" "I"] ++ wsX00)
def wsX0_requireArm : List Cond := .code yX0_requireArm cX0_requireArm 2 none :: ([.classLink RX0 152 "java/lang/IndexOutOfBoundsException", .initialized "java/lang/IndexOutOfBoundsException", .fieldLink RX0 46 "TurnEstimator" "armCount" "I"] ++ wsX00 ++ (vx_atS RX0 156 "java/lang/IndexOutOfBoundsException" ["java/lang/RuntimeException", "java/lang/Exception"]).filter goodWord)
def wsX0_setCount : List Cond := .code yX0_setCount cX0_setCount 5 (some .int) :: ([.methodLink RX0 54 yX0_requireArm, .instanceMethod yX0_requireArm, .selects RX0 yX0_requireArm yX0_requireArm, .initialized RX0, .code yX0_requireArm cX0_requireArm 2 none, .classLink RX0 152 "java/lang/IndexOutOfBoundsException", .initialized "java/lang/IndexOutOfBoundsException", .fieldLink RX0 46 "TurnEstimator" "armCount" "I", .methodLink RX0 42 yX0_requireWithin, .static yX0_requireWithin, .code yX0_requireWithin cX0_requireWithin 3 none, .classLink RX0 157 "java/lang/IllegalArgumentException", .initialized "java/lang/IllegalArgumentException", .methodLink RX0 64 yX0_resetEstimate, .instanceMethod yX0_resetEstimate, .selects RX0 yX0_resetEstimate yX0_resetEstimate, .code yX0_resetEstimate cX0_resetEstimate 3 none, .fieldLink RX0 19 "TurnEstimator" "estimates" "[D", .fieldLink RX0 16 "TurnEstimator" "weights" "[I", .fieldLink RX0 95 "TurnEstimator" "roundCount" "I", .methodLink RX0 57 yX0_turn, .static yX0_turn, .code yX0_turn cX0_turn 2 (some .int)] ++ wsX00 ++ (vx_atM "java/lang/ArrayIndexOutOfBoundsException" ["java/lang/IndexOutOfBoundsException", "java/lang/RuntimeException", "java/lang/Exception"]).filter goodWord ++ (vx_atS RX0 156 "java/lang/IndexOutOfBoundsException" ["java/lang/RuntimeException", "java/lang/Exception"]).filter goodWord ++ (vx_atS RX0 161 "java/lang/IllegalArgumentException" ["java/lang/RuntimeException", "java/lang/Exception"]).filter goodWord)
def wsX0_setInflow_r1 : List Cond := [Cond.fieldLink RX0 9 "TurnEstimator" "inflows" "[I", Cond.methodLink RX0 50 yX0_setCount, Cond.instanceMethod yX0_setCount, Cond.selects RX0 yX0_setCount yX0_setCount, Cond.initialized RX0, Cond.code yX0_setCount cX0_setCount 5 (some .int), Cond.methodLink RX0 54 yX0_requireArm, Cond.instanceMethod yX0_requireArm, Cond.selects RX0 yX0_requireArm yX0_requireArm, Cond.code yX0_requireArm cX0_requireArm 2 none, Cond.classLink RX0 152 "java/lang/IndexOutOfBoundsException", Cond.initialized "java/lang/IndexOutOfBoundsException", Cond.fieldLink RX0 46 "TurnEstimator" "armCount" "I", Cond.methodLink RX0 42 yX0_requireWithin, Cond.static yX0_requireWithin, Cond.code yX0_requireWithin cX0_requireWithin 3 none, Cond.classLink RX0 157 "java/lang/IllegalArgumentException", Cond.initialized "java/lang/IllegalArgumentException", Cond.methodLink RX0 64 yX0_resetEstimate, Cond.instanceMethod yX0_resetEstimate, Cond.selects RX0 yX0_resetEstimate yX0_resetEstimate, Cond.code yX0_resetEstimate cX0_resetEstimate 3 none, Cond.fieldLink RX0 19 "TurnEstimator" "estimates" "[D", Cond.fieldLink RX0 16 "TurnEstimator" "weights" "[I"]
def wsX0_setInflow_r2 : List Cond := [Cond.fieldLink RX0 95 "TurnEstimator" "roundCount" "I", Cond.methodLink RX0 57 yX0_turn, Cond.static yX0_turn, Cond.code yX0_turn cX0_turn 2 (some .int)]
def wsX0_setInflow : List Cond := .code yX0_setInflow cX0_setInflow 3 (some .int) :: ((wsX0_setInflow_r1 ++ wsX0_setInflow_r2) ++ wsX00 ++ (vx_atM "java/lang/ArrayIndexOutOfBoundsException" ["java/lang/IndexOutOfBoundsException", "java/lang/RuntimeException", "java/lang/Exception"]).filter goodWord ++ (vx_atS RX0 156 "java/lang/IndexOutOfBoundsException" ["java/lang/RuntimeException", "java/lang/Exception"]).filter goodWord ++ (vx_atS RX0 161 "java/lang/IllegalArgumentException" ["java/lang/RuntimeException", "java/lang/Exception"]).filter goodWord)
def wsX0_setOutflow_r1 : List Cond := [Cond.fieldLink RX0 13 "TurnEstimator" "outflows" "[I", Cond.methodLink RX0 50 yX0_setCount, Cond.instanceMethod yX0_setCount, Cond.selects RX0 yX0_setCount yX0_setCount, Cond.initialized RX0, Cond.code yX0_setCount cX0_setCount 5 (some .int), Cond.methodLink RX0 54 yX0_requireArm, Cond.instanceMethod yX0_requireArm, Cond.selects RX0 yX0_requireArm yX0_requireArm, Cond.code yX0_requireArm cX0_requireArm 2 none, Cond.classLink RX0 152 "java/lang/IndexOutOfBoundsException", Cond.initialized "java/lang/IndexOutOfBoundsException", Cond.fieldLink RX0 46 "TurnEstimator" "armCount" "I", Cond.methodLink RX0 42 yX0_requireWithin, Cond.static yX0_requireWithin, Cond.code yX0_requireWithin cX0_requireWithin 3 none, Cond.classLink RX0 157 "java/lang/IllegalArgumentException", Cond.initialized "java/lang/IllegalArgumentException", Cond.methodLink RX0 64 yX0_resetEstimate, Cond.instanceMethod yX0_resetEstimate, Cond.selects RX0 yX0_resetEstimate yX0_resetEstimate, Cond.code yX0_resetEstimate cX0_resetEstimate 3 none, Cond.fieldLink RX0 19 "TurnEstimator" "estimates" "[D", Cond.fieldLink RX0 16 "TurnEstimator" "weights" "[I"]
def wsX0_setOutflow_r2 : List Cond := [Cond.fieldLink RX0 95 "TurnEstimator" "roundCount" "I", Cond.methodLink RX0 57 yX0_turn, Cond.static yX0_turn, Cond.code yX0_turn cX0_turn 2 (some .int)]
def wsX0_setOutflow : List Cond := .code yX0_setOutflow cX0_setOutflow 3 (some .int) :: ((wsX0_setOutflow_r1 ++ wsX0_setOutflow_r2) ++ wsX00 ++ (vx_atM "java/lang/ArrayIndexOutOfBoundsException" ["java/lang/IndexOutOfBoundsException", "java/lang/RuntimeException", "java/lang/Exception"]).filter goodWord ++ (vx_atS RX0 156 "java/lang/IndexOutOfBoundsException" ["java/lang/RuntimeException", "java/lang/Exception"]).filter goodWord ++ (vx_atS RX0 161 "java/lang/IllegalArgumentException" ["java/lang/RuntimeException", "java/lang/Exception"]).filter goodWord)
def wsX0_setWeight_r1 : List Cond := [Cond.fieldLink RX0 16 "TurnEstimator" "weights" "[I", Cond.methodLink RX0 54 yX0_requireArm, Cond.instanceMethod yX0_requireArm, Cond.selects RX0 yX0_requireArm yX0_requireArm, Cond.initialized RX0, Cond.code yX0_requireArm cX0_requireArm 2 none, Cond.classLink RX0 152 "java/lang/IndexOutOfBoundsException", Cond.initialized "java/lang/IndexOutOfBoundsException", Cond.fieldLink RX0 46 "TurnEstimator" "armCount" "I", Cond.methodLink RX0 42 yX0_requireWithin, Cond.static yX0_requireWithin, Cond.code yX0_requireWithin cX0_requireWithin 3 none, Cond.classLink RX0 157 "java/lang/IllegalArgumentException", Cond.initialized "java/lang/IllegalArgumentException", Cond.methodLink RX0 57 yX0_turn, Cond.static yX0_turn, Cond.code yX0_turn cX0_turn 2 (some .int), Cond.methodLink RX0 61 yX0_putWeight, Cond.instanceMethod yX0_putWeight, Cond.selects RX0 yX0_putWeight yX0_putWeight, Cond.code yX0_putWeight cX0_putWeight 4 none, Cond.fieldLink RX0 23 "TurnEstimator" "targets" "[I", Cond.methodLink RX0 64 yX0_resetEstimate, Cond.instanceMethod yX0_resetEstimate]
def wsX0_setWeight_r2 : List Cond := [Cond.selects RX0 yX0_resetEstimate yX0_resetEstimate, Cond.code yX0_resetEstimate cX0_resetEstimate 3 none, Cond.fieldLink RX0 19 "TurnEstimator" "estimates" "[D", Cond.fieldLink RX0 95 "TurnEstimator" "roundCount" "I"]
def wsX0_setWeight : List Cond := .code yX0_setWeight cX0_setWeight 5 (some .int) :: ((wsX0_setWeight_r1 ++ wsX0_setWeight_r2) ++ wsX00 ++ (vx_atM "java/lang/ArrayIndexOutOfBoundsException" ["java/lang/IndexOutOfBoundsException", "java/lang/RuntimeException", "java/lang/Exception"]).filter goodWord ++ (vx_atS RX0 156 "java/lang/IndexOutOfBoundsException" ["java/lang/RuntimeException", "java/lang/Exception"]).filter goodWord ++ (vx_atS RX0 161 "java/lang/IllegalArgumentException" ["java/lang/RuntimeException", "java/lang/Exception"]).filter goodWord)
def wsX0_scaled : List Cond := .code yX0_scaled cX0_scaled 2 (some .int) :: ([])
def wsX0_requireScalable : List Cond := .code yX0_requireScalable cX0_requireScalable 2 none :: ([.classLink RX0 162 "java/lang/IllegalStateException", .initialized "java/lang/IllegalStateException", .methodLink RX0 71 yX0_scaled, .static yX0_scaled, .initialized RX0, .code yX0_scaled cX0_scaled 2 (some .int)] ++ (vx_atS RX0 166 "java/lang/IllegalStateException" ["java/lang/RuntimeException", "java/lang/Exception"]).filter goodWord)
def wsX0_total : List Cond := .code yX0_total cX0_total 4 (some .int) :: ([.fieldLink RX0 46 "TurnEstimator" "armCount" "I"] ++ wsX00 ++ (vx_atM "java/lang/ArrayIndexOutOfBoundsException" ["java/lang/IndexOutOfBoundsException", "java/lang/RuntimeException", "java/lang/Exception"]).filter goodWord)
def wsX0_scale_r1 : List Cond := [Cond.fieldLink RX0 46 "TurnEstimator" "armCount" "I", Cond.fieldLink RX0 9 "TurnEstimator" "inflows" "[I", Cond.fieldLink RX0 13 "TurnEstimator" "outflows" "[I", Cond.methodLink RX0 42 yX0_requireWithin, Cond.static yX0_requireWithin, Cond.initialized RX0, Cond.code yX0_requireWithin cX0_requireWithin 3 none, Cond.classLink RX0 157 "java/lang/IllegalArgumentException", Cond.initialized "java/lang/IllegalArgumentException", Cond.methodLink RX0 67 yX0_requireScalable, Cond.static yX0_requireScalable, Cond.code yX0_requireScalable cX0_requireScalable 2 none, Cond.classLink RX0 162 "java/lang/IllegalStateException", Cond.initialized "java/lang/IllegalStateException", Cond.methodLink RX0 71 yX0_scaled, Cond.static yX0_scaled, Cond.code yX0_scaled cX0_scaled 2 (some .int), Cond.methodLink RX0 64 yX0_resetEstimate, Cond.instanceMethod yX0_resetEstimate, Cond.selects RX0 yX0_resetEstimate yX0_resetEstimate, Cond.code yX0_resetEstimate cX0_resetEstimate 3 none, Cond.fieldLink RX0 19 "TurnEstimator" "estimates" "[D", Cond.fieldLink RX0 16 "TurnEstimator" "weights" "[I", Cond.fieldLink RX0 95 "TurnEstimator" "roundCount" "I"]
def wsX0_scale_r2 : List Cond := [Cond.methodLink RX0 57 yX0_turn, Cond.static yX0_turn, Cond.code yX0_turn cX0_turn 2 (some .int), Cond.methodLink RX0 74 yX0_total, Cond.instanceMethod yX0_total, Cond.selects RX0 yX0_total yX0_total, Cond.code yX0_total cX0_total 4 (some .int)]
def wsX0_scale : List Cond := .code yX0_scale cX0_scale 3 (some .int) :: ((wsX0_scale_r1 ++ wsX0_scale_r2) ++ wsX00 ++ (vx_atM "java/lang/ArrayIndexOutOfBoundsException" ["java/lang/IndexOutOfBoundsException", "java/lang/RuntimeException", "java/lang/Exception"]).filter goodWord ++ (vx_atS RX0 161 "java/lang/IllegalArgumentException" ["java/lang/RuntimeException", "java/lang/Exception"]).filter goodWord ++ (vx_atS RX0 166 "java/lang/IllegalStateException" ["java/lang/RuntimeException", "java/lang/Exception"]).filter goodWord)
def wsX0_imbalance : List Cond := .code yX0_imbalance cX0_imbalance 1 (some .int) :: ([.fieldLink RX0 9 "TurnEstimator" "inflows" "[I", .fieldLink RX0 13 "TurnEstimator" "outflows" "[I", .methodLink RX0 74 yX0_total, .instanceMethod yX0_total, .selects RX0 yX0_total yX0_total, .initialized RX0, .code yX0_total cX0_total 4 (some .int), .fieldLink RX0 46 "TurnEstimator" "armCount" "I"] ++ wsX00 ++ (vx_atM "java/lang/ArrayIndexOutOfBoundsException" ["java/lang/IndexOutOfBoundsException", "java/lang/RuntimeException", "java/lang/Exception"]).filter goodWord)
def wsX0_allArms : List Cond := .code yX0_allArms cX0_allArms 1 (some .int) :: ([.fieldLink RX0 46 "TurnEstimator" "armCount" "I"] ++ wsX00)
def wsX0_contains : List Cond := .code yX0_contains cX0_contains 2 (some .boolean) :: ([])
def wsX0_reachedFrom : List Cond := .code yX0_reachedFrom cX0_reachedFrom 4 (some .int) :: ([.fieldLink RX0 46 "TurnEstimator" "armCount" "I", .fieldLink RX0 23 "TurnEstimator" "targets" "[I", .methodLink RX0 167 yX0_contains, .static yX0_contains, .initialized RX0, .code yX0_contains cX0_contains 2 (some .boolean)] ++ wsX00 ++ (vx_atM "java/lang/ArrayIndexOutOfBoundsException" ["java/lang/IndexOutOfBoundsException", "java/lang/RuntimeException", "java/lang/Exception"]).filter goodWord)
def wsX0_excessOver : List Cond := .code yX0_excessOver cX0_excessOver 6 (some .int) :: ([.fieldLink RX0 46 "TurnEstimator" "armCount" "I", .fieldLink RX0 9 "TurnEstimator" "inflows" "[I", .methodLink RX0 171 yX0_reachedFrom, .instanceMethod yX0_reachedFrom, .selects RX0 yX0_reachedFrom yX0_reachedFrom, .initialized RX0, .code yX0_reachedFrom cX0_reachedFrom 4 (some .int), .fieldLink RX0 23 "TurnEstimator" "targets" "[I", .methodLink RX0 167 yX0_contains, .static yX0_contains, .code yX0_contains cX0_contains 2 (some .boolean)] ++ wsX00 ++ (vx_atM "java/lang/ArrayIndexOutOfBoundsException" ["java/lang/IndexOutOfBoundsException", "java/lang/RuntimeException", "java/lang/Exception"]).filter goodWord)
def wsX0_crowdedSet : List Cond := .code yX0_crowdedSet cX0_crowdedSet 2 (some .int) :: ([.fieldLink RX0 13 "TurnEstimator" "outflows" "[I", .methodLink RX0 85 yX0_allArms, .instanceMethod yX0_allArms, .selects RX0 yX0_allArms yX0_allArms, .initialized RX0, .code yX0_allArms cX0_allArms 1 (some .int), .fieldLink RX0 46 "TurnEstimator" "armCount" "I", .methodLink RX0 88 yX0_excessOver, .instanceMethod yX0_excessOver, .selects RX0 yX0_excessOver yX0_excessOver, .code yX0_excessOver cX0_excessOver 6 (some .int), .fieldLink RX0 9 "TurnEstimator" "inflows" "[I", .methodLink RX0 171 yX0_reachedFrom, .instanceMethod yX0_reachedFrom, .selects RX0 yX0_reachedFrom yX0_reachedFrom, .code yX0_reachedFrom cX0_reachedFrom 4 (some .int), .fieldLink RX0 23 "TurnEstimator" "targets" "[I", .methodLink RX0 167 yX0_contains, .static yX0_contains, .code yX0_contains cX0_contains 2 (some .boolean)] ++ wsX00 ++ (vx_atM "java/lang/ArrayIndexOutOfBoundsException" ["java/lang/IndexOutOfBoundsException", "java/lang/RuntimeException", "java/lang/Exception"]).filter goodWord)
def wsX0_isPossible_r1 : List Cond := [Cond.methodLink RX0 78 yX0_imbalance, Cond.instanceMethod yX0_imbalance, Cond.selects RX0 yX0_imbalance yX0_imbalance, Cond.initialized RX0, Cond.code yX0_imbalance cX0_imbalance 1 (some .int), Cond.fieldLink RX0 9 "TurnEstimator" "inflows" "[I", Cond.fieldLink RX0 13 "TurnEstimator" "outflows" "[I", Cond.methodLink RX0 74 yX0_total, Cond.instanceMethod yX0_total, Cond.selects RX0 yX0_total yX0_total, Cond.code yX0_total cX0_total 4 (some .int), Cond.fieldLink RX0 46 "TurnEstimator" "armCount" "I", Cond.methodLink RX0 82 yX0_crowdedSet, Cond.instanceMethod yX0_crowdedSet, Cond.selects RX0 yX0_crowdedSet yX0_crowdedSet, Cond.code yX0_crowdedSet cX0_crowdedSet 2 (some .int), Cond.methodLink RX0 85 yX0_allArms, Cond.instanceMethod yX0_allArms, Cond.selects RX0 yX0_allArms yX0_allArms, Cond.code yX0_allArms cX0_allArms 1 (some .int), Cond.methodLink RX0 88 yX0_excessOver, Cond.instanceMethod yX0_excessOver, Cond.selects RX0 yX0_excessOver yX0_excessOver, Cond.code yX0_excessOver cX0_excessOver 6 (some .int)]
def wsX0_isPossible_r2 : List Cond := [Cond.methodLink RX0 171 yX0_reachedFrom, Cond.instanceMethod yX0_reachedFrom, Cond.selects RX0 yX0_reachedFrom yX0_reachedFrom, Cond.code yX0_reachedFrom cX0_reachedFrom 4 (some .int), Cond.fieldLink RX0 23 "TurnEstimator" "targets" "[I", Cond.methodLink RX0 167 yX0_contains, Cond.static yX0_contains, Cond.code yX0_contains cX0_contains 2 (some .boolean)]
def wsX0_isPossible : List Cond := .code yX0_isPossible cX0_isPossible 1 (some .boolean) :: ((wsX0_isPossible_r1 ++ wsX0_isPossible_r2) ++ wsX00 ++ (vx_atM "java/lang/ArrayIndexOutOfBoundsException" ["java/lang/IndexOutOfBoundsException", "java/lang/RuntimeException", "java/lang/Exception"]).filter goodWord)
def wsX0_excess_r1 : List Cond := [Cond.fieldLink RX0 13 "TurnEstimator" "outflows" "[I", Cond.methodLink RX0 85 yX0_allArms, Cond.instanceMethod yX0_allArms, Cond.selects RX0 yX0_allArms yX0_allArms, Cond.initialized RX0, Cond.code yX0_allArms cX0_allArms 1 (some .int), Cond.fieldLink RX0 46 "TurnEstimator" "armCount" "I", Cond.methodLink RX0 42 yX0_requireWithin, Cond.static yX0_requireWithin, Cond.code yX0_requireWithin cX0_requireWithin 3 none, Cond.classLink RX0 157 "java/lang/IllegalArgumentException", Cond.initialized "java/lang/IllegalArgumentException", Cond.methodLink RX0 88 yX0_excessOver, Cond.instanceMethod yX0_excessOver, Cond.selects RX0 yX0_excessOver yX0_excessOver, Cond.code yX0_excessOver cX0_excessOver 6 (some .int), Cond.fieldLink RX0 9 "TurnEstimator" "inflows" "[I", Cond.methodLink RX0 171 yX0_reachedFrom, Cond.instanceMethod yX0_reachedFrom, Cond.selects RX0 yX0_reachedFrom yX0_reachedFrom, Cond.code yX0_reachedFrom cX0_reachedFrom 4 (some .int), Cond.fieldLink RX0 23 "TurnEstimator" "targets" "[I", Cond.methodLink RX0 167 yX0_contains, Cond.static yX0_contains]
def wsX0_excess_r2 : List Cond := [Cond.code yX0_contains cX0_contains 2 (some .boolean)]
def wsX0_excess : List Cond := .code yX0_excess cX0_excess 2 (some .int) :: ((wsX0_excess_r1 ++ wsX0_excess_r2) ++ wsX00 ++ (vx_atS RX0 161 "java/lang/IllegalArgumentException" ["java/lang/RuntimeException", "java/lang/Exception"]).filter goodWord ++ (vx_atM "java/lang/ArrayIndexOutOfBoundsException" ["java/lang/IndexOutOfBoundsException", "java/lang/RuntimeException", "java/lang/Exception"]).filter goodWord)
def wsX0_rowSum : List Cond := .code yX0_rowSum cX0_rowSum 5 (some .double) :: ([.fieldLink RX0 46 "TurnEstimator" "armCount" "I", .fieldLink RX0 19 "TurnEstimator" "estimates" "[D", .methodLink RX0 57 yX0_turn, .static yX0_turn, .initialized RX0, .code yX0_turn cX0_turn 2 (some .int)] ++ wsX00 ++ (vx_atM "java/lang/ArrayIndexOutOfBoundsException" ["java/lang/IndexOutOfBoundsException", "java/lang/RuntimeException", "java/lang/Exception"]).filter goodWord)
def wsX0_carryOutRowStep : List Cond := .code yX0_carryOutRowStep cX0_carryOutRowStep 7 none :: ([.fieldLink RX0 9 "TurnEstimator" "inflows" "[I", .fieldLink RX0 46 "TurnEstimator" "armCount" "I", .fieldLink RX0 19 "TurnEstimator" "estimates" "[D", .methodLink RX0 109 yX0_rowSum, .instanceMethod yX0_rowSum, .selects RX0 yX0_rowSum yX0_rowSum, .initialized RX0, .code yX0_rowSum cX0_rowSum 5 (some .double), .methodLink RX0 57 yX0_turn, .static yX0_turn, .code yX0_turn cX0_turn 2 (some .int)] ++ wsX00 ++ (vx_atM "java/lang/ArrayIndexOutOfBoundsException" ["java/lang/IndexOutOfBoundsException", "java/lang/RuntimeException", "java/lang/Exception"]).filter goodWord)
def wsX0_columnSum : List Cond := .code yX0_columnSum cX0_columnSum 5 (some .double) :: ([.fieldLink RX0 46 "TurnEstimator" "armCount" "I", .fieldLink RX0 19 "TurnEstimator" "estimates" "[D", .methodLink RX0 57 yX0_turn, .static yX0_turn, .initialized RX0, .code yX0_turn cX0_turn 2 (some .int)] ++ wsX00 ++ (vx_atM "java/lang/ArrayIndexOutOfBoundsException" ["java/lang/IndexOutOfBoundsException", "java/lang/RuntimeException", "java/lang/Exception"]).filter goodWord)
def wsX0_carryOutColumnStep : List Cond := .code yX0_carryOutColumnStep cX0_carryOutColumnStep 7 none :: ([.fieldLink RX0 13 "TurnEstimator" "outflows" "[I", .fieldLink RX0 46 "TurnEstimator" "armCount" "I", .fieldLink RX0 19 "TurnEstimator" "estimates" "[D", .methodLink RX0 105 yX0_columnSum, .instanceMethod yX0_columnSum, .selects RX0 yX0_columnSum yX0_columnSum, .initialized RX0, .code yX0_columnSum cX0_columnSum 5 (some .double), .methodLink RX0 57 yX0_turn, .static yX0_turn, .code yX0_turn cX0_turn 2 (some .int)] ++ wsX00 ++ (vx_atM "java/lang/ArrayIndexOutOfBoundsException" ["java/lang/IndexOutOfBoundsException", "java/lang/RuntimeException", "java/lang/Exception"]).filter goodWord)
def wsX0_carryOutRound_r1 : List Cond := [Cond.fieldLink RX0 46 "TurnEstimator" "armCount" "I", Cond.fieldLink RX0 95 "TurnEstimator" "roundCount" "I", Cond.methodLink RX0 197 yX0_carryOutRowStep, Cond.instanceMethod yX0_carryOutRowStep, Cond.selects RX0 yX0_carryOutRowStep yX0_carryOutRowStep, Cond.initialized RX0, Cond.code yX0_carryOutRowStep cX0_carryOutRowStep 7 none, Cond.fieldLink RX0 9 "TurnEstimator" "inflows" "[I", Cond.fieldLink RX0 19 "TurnEstimator" "estimates" "[D", Cond.methodLink RX0 109 yX0_rowSum, Cond.instanceMethod yX0_rowSum, Cond.selects RX0 yX0_rowSum yX0_rowSum, Cond.code yX0_rowSum cX0_rowSum 5 (some .double), Cond.methodLink RX0 57 yX0_turn, Cond.static yX0_turn, Cond.code yX0_turn cX0_turn 2 (some .int), Cond.methodLink RX0 200 yX0_carryOutColumnStep, Cond.instanceMethod yX0_carryOutColumnStep, Cond.selects RX0 yX0_carryOutColumnStep yX0_carryOutColumnStep, Cond.code yX0_carryOutColumnStep cX0_carryOutColumnStep 7 none, Cond.fieldLink RX0 13 "TurnEstimator" "outflows" "[I", Cond.methodLink RX0 105 yX0_columnSum, Cond.instanceMethod yX0_columnSum, Cond.selects RX0 yX0_columnSum yX0_columnSum]
def wsX0_carryOutRound_r2 : List Cond := [Cond.code yX0_columnSum cX0_columnSum 5 (some .double)]
def wsX0_carryOutRound : List Cond := .code yX0_carryOutRound cX0_carryOutRound 2 none :: ((wsX0_carryOutRound_r1 ++ wsX0_carryOutRound_r2) ++ wsX00 ++ (vx_atM "java/lang/ArrayIndexOutOfBoundsException" ["java/lang/IndexOutOfBoundsException", "java/lang/RuntimeException", "java/lang/Exception"]).filter goodWord)
def wsX0_iterate_r1 : List Cond := [Cond.fieldLink RX0 95 "TurnEstimator" "roundCount" "I", Cond.methodLink RX0 42 yX0_requireWithin, Cond.static yX0_requireWithin, Cond.initialized RX0, Cond.code yX0_requireWithin cX0_requireWithin 3 none, Cond.classLink RX0 157 "java/lang/IllegalArgumentException", Cond.initialized "java/lang/IllegalArgumentException", Cond.methodLink RX0 92 yX0_carryOutRound, Cond.instanceMethod yX0_carryOutRound, Cond.selects RX0 yX0_carryOutRound yX0_carryOutRound, Cond.code yX0_carryOutRound cX0_carryOutRound 2 none, Cond.fieldLink RX0 46 "TurnEstimator" "armCount" "I", Cond.methodLink RX0 197 yX0_carryOutRowStep, Cond.instanceMethod yX0_carryOutRowStep, Cond.selects RX0 yX0_carryOutRowStep yX0_carryOutRowStep, Cond.code yX0_carryOutRowStep cX0_carryOutRowStep 7 none, Cond.fieldLink RX0 9 "TurnEstimator" "inflows" "[I", Cond.fieldLink RX0 19 "TurnEstimator" "estimates" "[D", Cond.methodLink RX0 109 yX0_rowSum, Cond.instanceMethod yX0_rowSum, Cond.selects RX0 yX0_rowSum yX0_rowSum, Cond.code yX0_rowSum cX0_rowSum 5 (some .double), Cond.methodLink RX0 57 yX0_turn, Cond.static yX0_turn]
def wsX0_iterate_r2 : List Cond := [Cond.code yX0_turn cX0_turn 2 (some .int), Cond.methodLink RX0 200 yX0_carryOutColumnStep, Cond.instanceMethod yX0_carryOutColumnStep, Cond.selects RX0 yX0_carryOutColumnStep yX0_carryOutColumnStep, Cond.code yX0_carryOutColumnStep cX0_carryOutColumnStep 7 none, Cond.fieldLink RX0 13 "TurnEstimator" "outflows" "[I", Cond.methodLink RX0 105 yX0_columnSum, Cond.instanceMethod yX0_columnSum, Cond.selects RX0 yX0_columnSum yX0_columnSum, Cond.code yX0_columnSum cX0_columnSum 5 (some .double)]
def wsX0_iterate : List Cond := .code yX0_iterate cX0_iterate 3 (some .int) :: ((wsX0_iterate_r1 ++ wsX0_iterate_r2) ++ wsX00 ++ (vx_atS RX0 161 "java/lang/IllegalArgumentException" ["java/lang/RuntimeException", "java/lang/Exception"]).filter goodWord ++ (vx_atM "java/lang/ArrayIndexOutOfBoundsException" ["java/lang/IndexOutOfBoundsException", "java/lang/RuntimeException", "java/lang/Exception"]).filter goodWord)
def wsX0_distance : List Cond := .code yX0_distance cX0_distance 6 (some .double) :: ([])
def wsX0_misfit : List Cond := .code yX0_misfit cX0_misfit 8 (some .double) :: ([.fieldLink RX0 46 "TurnEstimator" "armCount" "I", .fieldLink RX0 9 "TurnEstimator" "inflows" "[I", .fieldLink RX0 13 "TurnEstimator" "outflows" "[I", .methodLink RX0 109 yX0_rowSum, .instanceMethod yX0_rowSum, .selects RX0 yX0_rowSum yX0_rowSum, .initialized RX0, .code yX0_rowSum cX0_rowSum 5 (some .double), .fieldLink RX0 19 "TurnEstimator" "estimates" "[D", .methodLink RX0 57 yX0_turn, .static yX0_turn, .code yX0_turn cX0_turn 2 (some .int), .methodLink RX0 112 yX0_distance, .static yX0_distance, .code yX0_distance cX0_distance 6 (some .double), .methodLink RX0 105 yX0_columnSum, .instanceMethod yX0_columnSum, .selects RX0 yX0_columnSum yX0_columnSum, .code yX0_columnSum cX0_columnSum 5 (some .double)] ++ wsX00 ++ (vx_atM "java/lang/ArrayIndexOutOfBoundsException" ["java/lang/IndexOutOfBoundsException", "java/lang/RuntimeException", "java/lang/Exception"]).filter goodWord)
def wsX0_fit_r1 : List Cond := [Cond.constant RX0 98 (100000), Cond.constantDouble RX0 99 (4652007308841189376), Cond.methodLink RX0 42 yX0_requireWithin, Cond.static yX0_requireWithin, Cond.initialized RX0, Cond.code yX0_requireWithin cX0_requireWithin 3 none, Cond.classLink RX0 157 "java/lang/IllegalArgumentException", Cond.initialized "java/lang/IllegalArgumentException", Cond.methodLink RX0 101 yX0_misfit, Cond.instanceMethod yX0_misfit, Cond.selects RX0 yX0_misfit yX0_misfit, Cond.code yX0_misfit cX0_misfit 8 (some .double), Cond.fieldLink RX0 46 "TurnEstimator" "armCount" "I", Cond.fieldLink RX0 9 "TurnEstimator" "inflows" "[I", Cond.fieldLink RX0 13 "TurnEstimator" "outflows" "[I", Cond.methodLink RX0 109 yX0_rowSum, Cond.instanceMethod yX0_rowSum, Cond.selects RX0 yX0_rowSum yX0_rowSum, Cond.code yX0_rowSum cX0_rowSum 5 (some .double), Cond.fieldLink RX0 19 "TurnEstimator" "estimates" "[D", Cond.methodLink RX0 57 yX0_turn, Cond.static yX0_turn, Cond.code yX0_turn cX0_turn 2 (some .int), Cond.methodLink RX0 112 yX0_distance]
def wsX0_fit_r2 : List Cond := [Cond.static yX0_distance, Cond.code yX0_distance cX0_distance 6 (some .double), Cond.methodLink RX0 105 yX0_columnSum, Cond.instanceMethod yX0_columnSum, Cond.selects RX0 yX0_columnSum yX0_columnSum, Cond.code yX0_columnSum cX0_columnSum 5 (some .double), Cond.methodLink RX0 92 yX0_carryOutRound, Cond.instanceMethod yX0_carryOutRound, Cond.selects RX0 yX0_carryOutRound yX0_carryOutRound, Cond.code yX0_carryOutRound cX0_carryOutRound 2 none, Cond.fieldLink RX0 95 "TurnEstimator" "roundCount" "I", Cond.methodLink RX0 197 yX0_carryOutRowStep, Cond.instanceMethod yX0_carryOutRowStep, Cond.selects RX0 yX0_carryOutRowStep yX0_carryOutRowStep, Cond.code yX0_carryOutRowStep cX0_carryOutRowStep 7 none, Cond.methodLink RX0 200 yX0_carryOutColumnStep, Cond.instanceMethod yX0_carryOutColumnStep, Cond.selects RX0 yX0_carryOutColumnStep yX0_carryOutColumnStep, Cond.code yX0_carryOutColumnStep cX0_carryOutColumnStep 7 none]
def wsX0_fit : List Cond := .code yX0_fit cX0_fit 6 (some .int) :: ((wsX0_fit_r1 ++ wsX0_fit_r2) ++ wsX00 ++ (vx_atS RX0 161 "java/lang/IllegalArgumentException" ["java/lang/RuntimeException", "java/lang/Exception"]).filter goodWord ++ (vx_atM "java/lang/ArrayIndexOutOfBoundsException" ["java/lang/IndexOutOfBoundsException", "java/lang/RuntimeException", "java/lang/Exception"]).filter goodWord)
def wsX0_reset : List Cond := .code yX0_reset cX0_reset 2 (some .int) :: ([.fieldLink RX0 95 "TurnEstimator" "roundCount" "I", .methodLink RX0 64 yX0_resetEstimate, .instanceMethod yX0_resetEstimate, .selects RX0 yX0_resetEstimate yX0_resetEstimate, .initialized RX0, .code yX0_resetEstimate cX0_resetEstimate 3 none, .fieldLink RX0 46 "TurnEstimator" "armCount" "I", .fieldLink RX0 19 "TurnEstimator" "estimates" "[D", .fieldLink RX0 16 "TurnEstimator" "weights" "[I", .methodLink RX0 57 yX0_turn, .static yX0_turn, .code yX0_turn cX0_turn 2 (some .int)] ++ wsX00 ++ (vx_atM "java/lang/ArrayIndexOutOfBoundsException" ["java/lang/IndexOutOfBoundsException", "java/lang/RuntimeException", "java/lang/Exception"]).filter goodWord)
def wsX0_rounds : List Cond := .code yX0_rounds cX0_rounds 1 (some .int) :: ([.fieldLink RX0 95 "TurnEstimator" "roundCount" "I"] ++ wsX00)
def wsX0_estimate : List Cond := .code yX0_estimate cX0_estimate 3 (some .double) :: ([.fieldLink RX0 19 "TurnEstimator" "estimates" "[D", .methodLink RX0 54 yX0_requireArm, .instanceMethod yX0_requireArm, .selects RX0 yX0_requireArm yX0_requireArm, .initialized RX0, .code yX0_requireArm cX0_requireArm 2 none, .classLink RX0 152 "java/lang/IndexOutOfBoundsException", .initialized "java/lang/IndexOutOfBoundsException", .fieldLink RX0 46 "TurnEstimator" "armCount" "I", .methodLink RX0 57 yX0_turn, .static yX0_turn, .code yX0_turn cX0_turn 2 (some .int)] ++ wsX00 ++ (vx_atM "java/lang/ArrayIndexOutOfBoundsException" ["java/lang/IndexOutOfBoundsException", "java/lang/RuntimeException", "java/lang/Exception"]).filter goodWord ++ (vx_atS RX0 156 "java/lang/IndexOutOfBoundsException" ["java/lang/RuntimeException", "java/lang/Exception"]).filter goodWord)
def wsX0_sum : List Cond := .code yX0_sum cX0_sum 3 (some .double) :: ([.methodLink RX0 54 yX0_requireArm, .instanceMethod yX0_requireArm, .selects RX0 yX0_requireArm yX0_requireArm, .initialized RX0, .code yX0_requireArm cX0_requireArm 2 none, .classLink RX0 152 "java/lang/IndexOutOfBoundsException", .initialized "java/lang/IndexOutOfBoundsException", .fieldLink RX0 46 "TurnEstimator" "armCount" "I", .methodLink RX0 105 yX0_columnSum, .instanceMethod yX0_columnSum, .selects RX0 yX0_columnSum yX0_columnSum, .code yX0_columnSum cX0_columnSum 5 (some .double), .fieldLink RX0 19 "TurnEstimator" "estimates" "[D", .methodLink RX0 57 yX0_turn, .static yX0_turn, .code yX0_turn cX0_turn 2 (some .int), .methodLink RX0 109 yX0_rowSum, .instanceMethod yX0_rowSum, .selects RX0 yX0_rowSum yX0_rowSum, .code yX0_rowSum cX0_rowSum 5 (some .double)] ++ wsX00 ++ (vx_atS RX0 156 "java/lang/IndexOutOfBoundsException" ["java/lang/RuntimeException", "java/lang/Exception"]).filter goodWord ++ (vx_atM "java/lang/ArrayIndexOutOfBoundsException" ["java/lang/IndexOutOfBoundsException", "java/lang/RuntimeException", "java/lang/Exception"]).filter goodWord)
def wsX0_share : List Cond := .code yX0_share cX0_share 5 (some .double) :: ([.fieldLink RX0 19 "TurnEstimator" "estimates" "[D", .methodLink RX0 54 yX0_requireArm, .instanceMethod yX0_requireArm, .selects RX0 yX0_requireArm yX0_requireArm, .initialized RX0, .code yX0_requireArm cX0_requireArm 2 none, .classLink RX0 152 "java/lang/IndexOutOfBoundsException", .initialized "java/lang/IndexOutOfBoundsException", .fieldLink RX0 46 "TurnEstimator" "armCount" "I", .methodLink RX0 109 yX0_rowSum, .instanceMethod yX0_rowSum, .selects RX0 yX0_rowSum yX0_rowSum, .code yX0_rowSum cX0_rowSum 5 (some .double), .methodLink RX0 57 yX0_turn, .static yX0_turn, .code yX0_turn cX0_turn 2 (some .int)] ++ wsX00 ++ (vx_atM "java/lang/ArrayIndexOutOfBoundsException" ["java/lang/IndexOutOfBoundsException", "java/lang/RuntimeException", "java/lang/Exception"]).filter goodWord ++ (vx_atS RX0 156 "java/lang/IndexOutOfBoundsException" ["java/lang/RuntimeException", "java/lang/Exception"]).filter goodWord)
def wsX0_crossRatio : List Cond := .code yX0_crossRatio cX0_crossRatio 9 (some .double) :: ([.classLink RX0 116 "java/lang/ArithmeticException", .initialized "java/lang/ArithmeticException", .fieldLink RX0 19 "TurnEstimator" "estimates" "[D", .methodLink RX0 54 yX0_requireArm, .instanceMethod yX0_requireArm, .selects RX0 yX0_requireArm yX0_requireArm, .initialized RX0, .code yX0_requireArm cX0_requireArm 2 none, .classLink RX0 152 "java/lang/IndexOutOfBoundsException", .initialized "java/lang/IndexOutOfBoundsException", .fieldLink RX0 46 "TurnEstimator" "armCount" "I", .methodLink RX0 57 yX0_turn, .static yX0_turn, .code yX0_turn cX0_turn 2 (some .int)] ++ wsX00 ++ (vx_atM "java/lang/ArrayIndexOutOfBoundsException" ["java/lang/IndexOutOfBoundsException", "java/lang/RuntimeException", "java/lang/Exception"]).filter goodWord ++ (vx_atS RX0 120 "java/lang/ArithmeticException" ["java/lang/RuntimeException", "java/lang/Exception"]).filter goodWord ++ (vx_atS RX0 156 "java/lang/IndexOutOfBoundsException" ["java/lang/RuntimeException", "java/lang/Exception"]).filter goodWord)
def wsX0_busiestTurn : List Cond := .code yX0_busiestTurn cX0_busiestTurn 6 (some .int) :: ([.fieldLink RX0 46 "TurnEstimator" "armCount" "I", .fieldLink RX0 19 "TurnEstimator" "estimates" "[D", .methodLink RX0 57 yX0_turn, .static yX0_turn, .initialized RX0, .code yX0_turn cX0_turn 2 (some .int)] ++ wsX00 ++ (vx_atM "java/lang/ArrayIndexOutOfBoundsException" ["java/lang/IndexOutOfBoundsException", "java/lang/RuntimeException", "java/lang/Exception"]).filter goodWord)
def wsX0_isOpen : List Cond := .code yX0_isOpen cX0_isOpen 3 (some .boolean) :: ([.fieldLink RX0 23 "TurnEstimator" "targets" "[I", .methodLink RX0 167 yX0_contains, .static yX0_contains, .initialized RX0, .code yX0_contains cX0_contains 2 (some .boolean)] ++ wsX00 ++ (vx_atM "java/lang/ArrayIndexOutOfBoundsException" ["java/lang/IndexOutOfBoundsException", "java/lang/RuntimeException", "java/lang/Exception"]).filter goodWord)
def wsX0_greatestFraction : List Cond := .code yX0_greatestFraction cX0_greatestFraction 6 (some .int) :: ([.constantDouble RX0 209 (13830554455654793216), .fieldLink RX0 46 "TurnEstimator" "armCount" "I", .fieldLink RX0 35 "TurnEstimator" "fractions" "[D", .methodLink RX0 189 yX0_isOpen, .instanceMethod yX0_isOpen, .selects RX0 yX0_isOpen yX0_isOpen, .initialized RX0, .code yX0_isOpen cX0_isOpen 3 (some .boolean), .fieldLink RX0 23 "TurnEstimator" "targets" "[I", .methodLink RX0 167 yX0_contains, .static yX0_contains, .code yX0_contains cX0_contains 2 (some .boolean)] ++ wsX00 ++ (vx_atM "java/lang/ArrayIndexOutOfBoundsException" ["java/lang/IndexOutOfBoundsException", "java/lang/RuntimeException", "java/lang/Exception"]).filter goodWord)
def wsX0_raiseGreatestFractions : List Cond := .code yX0_raiseGreatestFractions cX0_raiseGreatestFractions 6 none :: ([.fieldLink RX0 46 "TurnEstimator" "armCount" "I", .methodLink RX0 192 Lib.Math.min.name, .static Lib.Math.min.name, .initialized "java/lang/Math", .code Lib.Math.min.name Lib.Math.min.code 2 (some .int), .fieldLink RX0 26 "TurnEstimator" "roundedTable" "[I", .fieldLink RX0 35 "TurnEstimator" "fractions" "[D", .constantDouble RX0 209 (13830554455654793216), .methodLink RX0 206 yX0_greatestFraction, .instanceMethod yX0_greatestFraction, .selects RX0 yX0_greatestFraction yX0_greatestFraction, .initialized RX0, .code yX0_greatestFraction cX0_greatestFraction 6 (some .int), .methodLink RX0 189 yX0_isOpen, .instanceMethod yX0_isOpen, .selects RX0 yX0_isOpen yX0_isOpen, .code yX0_isOpen cX0_isOpen 3 (some .boolean), .fieldLink RX0 23 "TurnEstimator" "targets" "[I", .methodLink RX0 167 yX0_contains, .static yX0_contains, .code yX0_contains cX0_contains 2 (some .boolean), .methodLink RX0 57 yX0_turn, .static yX0_turn, .code yX0_turn cX0_turn 2 (some .int)] ++ wsX00 ++ (vx_atM "java/lang/ArrayIndexOutOfBoundsException" ["java/lang/IndexOutOfBoundsException", "java/lang/RuntimeException", "java/lang/Exception"]).filter goodWord)
def wsX0_roundRow_r1 : List Cond := [Cond.fieldLink RX0 46 "TurnEstimator" "armCount" "I", Cond.fieldLink RX0 19 "TurnEstimator" "estimates" "[D", Cond.fieldLink RX0 9 "TurnEstimator" "inflows" "[I", Cond.fieldLink RX0 26 "TurnEstimator" "roundedTable" "[I", Cond.fieldLink RX0 35 "TurnEstimator" "fractions" "[D", Cond.methodLink RX0 109 yX0_rowSum, Cond.instanceMethod yX0_rowSum, Cond.selects RX0 yX0_rowSum yX0_rowSum, Cond.initialized RX0, Cond.code yX0_rowSum cX0_rowSum 5 (some .double), Cond.methodLink RX0 57 yX0_turn, Cond.static yX0_turn, Cond.code yX0_turn cX0_turn 2 (some .int), Cond.methodLink RX0 203 yX0_raiseGreatestFractions, Cond.instanceMethod yX0_raiseGreatestFractions, Cond.selects RX0 yX0_raiseGreatestFractions yX0_raiseGreatestFractions, Cond.code yX0_raiseGreatestFractions cX0_raiseGreatestFractions 6 none, Cond.methodLink RX0 192 Lib.Math.min.name, Cond.static Lib.Math.min.name, Cond.initialized "java/lang/Math", Cond.code Lib.Math.min.name Lib.Math.min.code 2 (some .int), Cond.constantDouble RX0 209 (13830554455654793216), Cond.methodLink RX0 206 yX0_greatestFraction, Cond.instanceMethod yX0_greatestFraction]
def wsX0_roundRow_r2 : List Cond := [Cond.selects RX0 yX0_greatestFraction yX0_greatestFraction, Cond.code yX0_greatestFraction cX0_greatestFraction 6 (some .int), Cond.methodLink RX0 189 yX0_isOpen, Cond.instanceMethod yX0_isOpen, Cond.selects RX0 yX0_isOpen yX0_isOpen, Cond.code yX0_isOpen cX0_isOpen 3 (some .boolean), Cond.fieldLink RX0 23 "TurnEstimator" "targets" "[I", Cond.methodLink RX0 167 yX0_contains, Cond.static yX0_contains, Cond.code yX0_contains cX0_contains 2 (some .boolean)]
def wsX0_roundRow : List Cond := .code yX0_roundRow cX0_roundRow 9 none :: ((wsX0_roundRow_r1 ++ wsX0_roundRow_r2) ++ wsX00 ++ (vx_atM "java/lang/ArrayIndexOutOfBoundsException" ["java/lang/IndexOutOfBoundsException", "java/lang/RuntimeException", "java/lang/Exception"]).filter goodWord)
def wsX0_rounded_r1 : List Cond := [Cond.fieldLink RX0 26 "TurnEstimator" "roundedTable" "[I", Cond.methodLink RX0 54 yX0_requireArm, Cond.instanceMethod yX0_requireArm, Cond.selects RX0 yX0_requireArm yX0_requireArm, Cond.initialized RX0, Cond.code yX0_requireArm cX0_requireArm 2 none, Cond.classLink RX0 152 "java/lang/IndexOutOfBoundsException", Cond.initialized "java/lang/IndexOutOfBoundsException", Cond.fieldLink RX0 46 "TurnEstimator" "armCount" "I", Cond.methodLink RX0 123 yX0_roundRow, Cond.instanceMethod yX0_roundRow, Cond.selects RX0 yX0_roundRow yX0_roundRow, Cond.code yX0_roundRow cX0_roundRow 9 none, Cond.fieldLink RX0 19 "TurnEstimator" "estimates" "[D", Cond.fieldLink RX0 9 "TurnEstimator" "inflows" "[I", Cond.fieldLink RX0 35 "TurnEstimator" "fractions" "[D", Cond.methodLink RX0 109 yX0_rowSum, Cond.instanceMethod yX0_rowSum, Cond.selects RX0 yX0_rowSum yX0_rowSum, Cond.code yX0_rowSum cX0_rowSum 5 (some .double), Cond.methodLink RX0 57 yX0_turn, Cond.static yX0_turn, Cond.code yX0_turn cX0_turn 2 (some .int), Cond.methodLink RX0 203 yX0_raiseGreatestFractions]
def wsX0_rounded_r2 : List Cond := [Cond.instanceMethod yX0_raiseGreatestFractions, Cond.selects RX0 yX0_raiseGreatestFractions yX0_raiseGreatestFractions, Cond.code yX0_raiseGreatestFractions cX0_raiseGreatestFractions 6 none, Cond.methodLink RX0 192 Lib.Math.min.name, Cond.static Lib.Math.min.name, Cond.initialized "java/lang/Math", Cond.code Lib.Math.min.name Lib.Math.min.code 2 (some .int), Cond.constantDouble RX0 209 (13830554455654793216), Cond.methodLink RX0 206 yX0_greatestFraction, Cond.instanceMethod yX0_greatestFraction, Cond.selects RX0 yX0_greatestFraction yX0_greatestFraction, Cond.code yX0_greatestFraction cX0_greatestFraction 6 (some .int), Cond.methodLink RX0 189 yX0_isOpen, Cond.instanceMethod yX0_isOpen, Cond.selects RX0 yX0_isOpen yX0_isOpen, Cond.code yX0_isOpen cX0_isOpen 3 (some .boolean), Cond.fieldLink RX0 23 "TurnEstimator" "targets" "[I", Cond.methodLink RX0 167 yX0_contains, Cond.static yX0_contains, Cond.code yX0_contains cX0_contains 2 (some .boolean)]
def wsX0_rounded : List Cond := .code yX0_rounded cX0_rounded 3 (some .int) :: ((wsX0_rounded_r1 ++ wsX0_rounded_r2) ++ wsX00 ++ (vx_atM "java/lang/ArrayIndexOutOfBoundsException" ["java/lang/IndexOutOfBoundsException", "java/lang/RuntimeException", "java/lang/Exception"]).filter goodWord ++ (vx_atS RX0 156 "java/lang/IndexOutOfBoundsException" ["java/lang/RuntimeException", "java/lang/Exception"]).filter goodWord)
def wsX0_roundAllRows_r1 : List Cond := [Cond.fieldLink RX0 46 "TurnEstimator" "armCount" "I", Cond.methodLink RX0 123 yX0_roundRow, Cond.instanceMethod yX0_roundRow, Cond.selects RX0 yX0_roundRow yX0_roundRow, Cond.initialized RX0, Cond.code yX0_roundRow cX0_roundRow 9 none, Cond.fieldLink RX0 19 "TurnEstimator" "estimates" "[D", Cond.fieldLink RX0 9 "TurnEstimator" "inflows" "[I", Cond.fieldLink RX0 26 "TurnEstimator" "roundedTable" "[I", Cond.fieldLink RX0 35 "TurnEstimator" "fractions" "[D", Cond.methodLink RX0 109 yX0_rowSum, Cond.instanceMethod yX0_rowSum, Cond.selects RX0 yX0_rowSum yX0_rowSum, Cond.code yX0_rowSum cX0_rowSum 5 (some .double), Cond.methodLink RX0 57 yX0_turn, Cond.static yX0_turn, Cond.code yX0_turn cX0_turn 2 (some .int), Cond.methodLink RX0 203 yX0_raiseGreatestFractions, Cond.instanceMethod yX0_raiseGreatestFractions, Cond.selects RX0 yX0_raiseGreatestFractions yX0_raiseGreatestFractions, Cond.code yX0_raiseGreatestFractions cX0_raiseGreatestFractions 6 none, Cond.methodLink RX0 192 Lib.Math.min.name, Cond.static Lib.Math.min.name, Cond.initialized "java/lang/Math"]
def wsX0_roundAllRows_r2 : List Cond := [Cond.code Lib.Math.min.name Lib.Math.min.code 2 (some .int), Cond.constantDouble RX0 209 (13830554455654793216), Cond.methodLink RX0 206 yX0_greatestFraction, Cond.instanceMethod yX0_greatestFraction, Cond.selects RX0 yX0_greatestFraction yX0_greatestFraction, Cond.code yX0_greatestFraction cX0_greatestFraction 6 (some .int), Cond.methodLink RX0 189 yX0_isOpen, Cond.instanceMethod yX0_isOpen, Cond.selects RX0 yX0_isOpen yX0_isOpen, Cond.code yX0_isOpen cX0_isOpen 3 (some .boolean), Cond.fieldLink RX0 23 "TurnEstimator" "targets" "[I", Cond.methodLink RX0 167 yX0_contains, Cond.static yX0_contains, Cond.code yX0_contains cX0_contains 2 (some .boolean)]
def wsX0_roundAllRows : List Cond := .code yX0_roundAllRows cX0_roundAllRows 2 none :: ((wsX0_roundAllRows_r1 ++ wsX0_roundAllRows_r2) ++ wsX00 ++ (vx_atM "java/lang/ArrayIndexOutOfBoundsException" ["java/lang/IndexOutOfBoundsException", "java/lang/RuntimeException", "java/lang/Exception"]).filter goodWord)
def wsX0_roundedDifference : List Cond := .code yX0_roundedDifference cX0_roundedDifference 5 (some .int) :: ([.fieldLink RX0 46 "TurnEstimator" "armCount" "I", .fieldLink RX0 26 "TurnEstimator" "roundedTable" "[I", .fieldLink RX0 13 "TurnEstimator" "outflows" "[I", .methodLink RX0 211 Lib.Math.abs.name, .static Lib.Math.abs.name, .initialized "java/lang/Math", .code Lib.Math.abs.name Lib.Math.abs.code 1 (some .int), .methodLink RX0 57 yX0_turn, .static yX0_turn, .initialized RX0, .code yX0_turn cX0_turn 2 (some .int)] ++ wsX00 ++ (vx_atM "java/lang/ArrayIndexOutOfBoundsException" ["java/lang/IndexOutOfBoundsException", "java/lang/RuntimeException", "java/lang/Exception"]).filter goodWord)
def wsX0_roundedMisfit_r1 : List Cond := [Cond.methodLink RX0 126 yX0_roundAllRows, Cond.instanceMethod yX0_roundAllRows, Cond.selects RX0 yX0_roundAllRows yX0_roundAllRows, Cond.initialized RX0, Cond.code yX0_roundAllRows cX0_roundAllRows 2 none, Cond.fieldLink RX0 46 "TurnEstimator" "armCount" "I", Cond.methodLink RX0 123 yX0_roundRow, Cond.instanceMethod yX0_roundRow, Cond.selects RX0 yX0_roundRow yX0_roundRow, Cond.code yX0_roundRow cX0_roundRow 9 none, Cond.fieldLink RX0 19 "TurnEstimator" "estimates" "[D", Cond.fieldLink RX0 9 "TurnEstimator" "inflows" "[I", Cond.fieldLink RX0 26 "TurnEstimator" "roundedTable" "[I", Cond.fieldLink RX0 35 "TurnEstimator" "fractions" "[D", Cond.methodLink RX0 109 yX0_rowSum, Cond.instanceMethod yX0_rowSum, Cond.selects RX0 yX0_rowSum yX0_rowSum, Cond.code yX0_rowSum cX0_rowSum 5 (some .double), Cond.methodLink RX0 57 yX0_turn, Cond.static yX0_turn, Cond.code yX0_turn cX0_turn 2 (some .int), Cond.methodLink RX0 203 yX0_raiseGreatestFractions, Cond.instanceMethod yX0_raiseGreatestFractions, Cond.selects RX0 yX0_raiseGreatestFractions yX0_raiseGreatestFractions]
def wsX0_roundedMisfit_r2 : List Cond := [Cond.code yX0_raiseGreatestFractions cX0_raiseGreatestFractions 6 none, Cond.methodLink RX0 192 Lib.Math.min.name, Cond.static Lib.Math.min.name, Cond.initialized "java/lang/Math", Cond.code Lib.Math.min.name Lib.Math.min.code 2 (some .int), Cond.constantDouble RX0 209 (13830554455654793216), Cond.methodLink RX0 206 yX0_greatestFraction, Cond.instanceMethod yX0_greatestFraction, Cond.selects RX0 yX0_greatestFraction yX0_greatestFraction, Cond.code yX0_greatestFraction cX0_greatestFraction 6 (some .int), Cond.methodLink RX0 189 yX0_isOpen, Cond.instanceMethod yX0_isOpen, Cond.selects RX0 yX0_isOpen yX0_isOpen, Cond.code yX0_isOpen cX0_isOpen 3 (some .boolean), Cond.fieldLink RX0 23 "TurnEstimator" "targets" "[I", Cond.methodLink RX0 167 yX0_contains, Cond.static yX0_contains, Cond.code yX0_contains cX0_contains 2 (some .boolean), Cond.methodLink RX0 129 yX0_roundedDifference, Cond.instanceMethod yX0_roundedDifference, Cond.selects RX0 yX0_roundedDifference yX0_roundedDifference, Cond.code yX0_roundedDifference cX0_roundedDifference 5 (some .int), Cond.fieldLink RX0 13 "TurnEstimator" "outflows" "[I", Cond.methodLink RX0 211 Lib.Math.abs.name]
def wsX0_roundedMisfit_r3 : List Cond := [Cond.static Lib.Math.abs.name, Cond.code Lib.Math.abs.name Lib.Math.abs.code 1 (some .int)]
def wsX0_roundedMisfit : List Cond := .code yX0_roundedMisfit cX0_roundedMisfit 1 (some .int) :: ((wsX0_roundedMisfit_r1 ++ (wsX0_roundedMisfit_r2 ++ wsX0_roundedMisfit_r3)) ++ wsX00 ++ (vx_atM "java/lang/ArrayIndexOutOfBoundsException" ["java/lang/IndexOutOfBoundsException", "java/lang/RuntimeException", "java/lang/Exception"]).filter goodWord)
def wsX0_greatestPossible_r1 : List Cond := [Cond.fieldLink RX0 32 "TurnEstimator" "outflowsLeft" "[I", Cond.methodLink RX0 192 Lib.Math.min.name, Cond.static Lib.Math.min.name, Cond.initialized "java/lang/Math", Cond.code Lib.Math.min.name Lib.Math.min.code 2 (some .int), Cond.methodLink RX0 189 yX0_isOpen, Cond.instanceMethod yX0_isOpen, Cond.selects RX0 yX0_isOpen yX0_isOpen, Cond.initialized RX0, Cond.code yX0_isOpen cX0_isOpen 3 (some .boolean), Cond.fieldLink RX0 23 "TurnEstimator" "targets" "[I", Cond.methodLink RX0 167 yX0_contains, Cond.static yX0_contains, Cond.code yX0_contains cX0_contains 2 (some .boolean), Cond.methodLink RX0 85 yX0_allArms, Cond.instanceMethod yX0_allArms, Cond.selects RX0 yX0_allArms yX0_allArms, Cond.code yX0_allArms cX0_allArms 1 (some .int), Cond.fieldLink RX0 46 "TurnEstimator" "armCount" "I", Cond.methodLink RX0 171 yX0_reachedFrom, Cond.instanceMethod yX0_reachedFrom, Cond.selects RX0 yX0_reachedFrom yX0_reachedFrom, Cond.code yX0_reachedFrom cX0_reachedFrom 4 (some .int), Cond.methodLink RX0 88 yX0_excessOver]
def wsX0_greatestPossible_r2 : List Cond := [Cond.instanceMethod yX0_excessOver, Cond.selects RX0 yX0_excessOver yX0_excessOver, Cond.code yX0_excessOver cX0_excessOver 6 (some .int), Cond.fieldLink RX0 9 "TurnEstimator" "inflows" "[I"]
def wsX0_greatestPossible : List Cond := .code yX0_greatestPossible cX0_greatestPossible 7 (some .int) :: ((wsX0_greatestPossible_r1 ++ wsX0_greatestPossible_r2) ++ wsX00 ++ (vx_atM "java/lang/ArrayIndexOutOfBoundsException" ["java/lang/IndexOutOfBoundsException", "java/lang/RuntimeException", "java/lang/Exception"]).filter goodWord)
def wsX0_fillPossibleTable_r1 : List Cond := [Cond.fieldLink RX0 13 "TurnEstimator" "outflows" "[I", Cond.fieldLink RX0 32 "TurnEstimator" "outflowsLeft" "[I", Cond.methodLink RX0 179 arraycopyName, Cond.native arraycopyName, Cond.static arraycopyName, Cond.initialized "java/lang/System", Cond.fieldLink RX0 46 "TurnEstimator" "armCount" "I", Cond.fieldLink RX0 9 "TurnEstimator" "inflows" "[I", Cond.fieldLink RX0 29 "TurnEstimator" "possibleTable" "[I", Cond.methodLink RX0 175 yX0_isPossible, Cond.instanceMethod yX0_isPossible, Cond.selects RX0 yX0_isPossible yX0_isPossible, Cond.initialized RX0, Cond.code yX0_isPossible cX0_isPossible 1 (some .boolean), Cond.methodLink RX0 78 yX0_imbalance, Cond.instanceMethod yX0_imbalance, Cond.selects RX0 yX0_imbalance yX0_imbalance, Cond.code yX0_imbalance cX0_imbalance 1 (some .int), Cond.methodLink RX0 74 yX0_total, Cond.instanceMethod yX0_total, Cond.selects RX0 yX0_total yX0_total, Cond.code yX0_total cX0_total 4 (some .int), Cond.methodLink RX0 82 yX0_crowdedSet, Cond.instanceMethod yX0_crowdedSet]
def wsX0_fillPossibleTable_r2 : List Cond := [Cond.selects RX0 yX0_crowdedSet yX0_crowdedSet, Cond.code yX0_crowdedSet cX0_crowdedSet 2 (some .int), Cond.methodLink RX0 85 yX0_allArms, Cond.instanceMethod yX0_allArms, Cond.selects RX0 yX0_allArms yX0_allArms, Cond.code yX0_allArms cX0_allArms 1 (some .int), Cond.methodLink RX0 88 yX0_excessOver, Cond.instanceMethod yX0_excessOver, Cond.selects RX0 yX0_excessOver yX0_excessOver, Cond.code yX0_excessOver cX0_excessOver 6 (some .int), Cond.methodLink RX0 171 yX0_reachedFrom, Cond.instanceMethod yX0_reachedFrom, Cond.selects RX0 yX0_reachedFrom yX0_reachedFrom, Cond.code yX0_reachedFrom cX0_reachedFrom 4 (some .int), Cond.fieldLink RX0 23 "TurnEstimator" "targets" "[I", Cond.methodLink RX0 167 yX0_contains, Cond.static yX0_contains, Cond.code yX0_contains cX0_contains 2 (some .boolean), Cond.methodLink RX0 185 yX0_greatestPossible, Cond.instanceMethod yX0_greatestPossible, Cond.selects RX0 yX0_greatestPossible yX0_greatestPossible, Cond.code yX0_greatestPossible cX0_greatestPossible 7 (some .int), Cond.methodLink RX0 192 Lib.Math.min.name, Cond.static Lib.Math.min.name]
def wsX0_fillPossibleTable_r3 : List Cond := [Cond.initialized "java/lang/Math", Cond.code Lib.Math.min.name Lib.Math.min.code 2 (some .int), Cond.methodLink RX0 189 yX0_isOpen, Cond.instanceMethod yX0_isOpen, Cond.selects RX0 yX0_isOpen yX0_isOpen, Cond.code yX0_isOpen cX0_isOpen 3 (some .boolean), Cond.methodLink RX0 57 yX0_turn, Cond.static yX0_turn, Cond.code yX0_turn cX0_turn 2 (some .int)]
def wsX0_fillPossibleTable : List Cond := .code yX0_fillPossibleTable cX0_fillPossibleTable 6 none :: ((wsX0_fillPossibleTable_r1 ++ (wsX0_fillPossibleTable_r2 ++ wsX0_fillPossibleTable_r3)) ++ wsX00 ++ (vx_atM "java/lang/ArrayIndexOutOfBoundsException" ["java/lang/IndexOutOfBoundsException", "java/lang/RuntimeException", "java/lang/Exception"]).filter goodWord)
def wsX0_possible_r1 : List Cond := [Cond.fieldLink RX0 29 "TurnEstimator" "possibleTable" "[I", Cond.methodLink RX0 54 yX0_requireArm, Cond.instanceMethod yX0_requireArm, Cond.selects RX0 yX0_requireArm yX0_requireArm, Cond.initialized RX0, Cond.code yX0_requireArm cX0_requireArm 2 none, Cond.classLink RX0 152 "java/lang/IndexOutOfBoundsException", Cond.initialized "java/lang/IndexOutOfBoundsException", Cond.fieldLink RX0 46 "TurnEstimator" "armCount" "I", Cond.methodLink RX0 132 yX0_fillPossibleTable, Cond.instanceMethod yX0_fillPossibleTable, Cond.selects RX0 yX0_fillPossibleTable yX0_fillPossibleTable, Cond.code yX0_fillPossibleTable cX0_fillPossibleTable 6 none, Cond.fieldLink RX0 13 "TurnEstimator" "outflows" "[I", Cond.fieldLink RX0 32 "TurnEstimator" "outflowsLeft" "[I", Cond.methodLink RX0 179 arraycopyName, Cond.native arraycopyName, Cond.static arraycopyName, Cond.initialized "java/lang/System", Cond.fieldLink RX0 9 "TurnEstimator" "inflows" "[I", Cond.methodLink RX0 175 yX0_isPossible, Cond.instanceMethod yX0_isPossible, Cond.selects RX0 yX0_isPossible yX0_isPossible, Cond.code yX0_isPossible cX0_isPossible 1 (some .boolean)]
def wsX0_possible_r2 : List Cond := [Cond.methodLink RX0 78 yX0_imbalance, Cond.instanceMethod yX0_imbalance, Cond.selects RX0 yX0_imbalance yX0_imbalance, Cond.code yX0_imbalance cX0_imbalance 1 (some .int), Cond.methodLink RX0 74 yX0_total, Cond.instanceMethod yX0_total, Cond.selects RX0 yX0_total yX0_total, Cond.code yX0_total cX0_total 4 (some .int), Cond.methodLink RX0 82 yX0_crowdedSet, Cond.instanceMethod yX0_crowdedSet, Cond.selects RX0 yX0_crowdedSet yX0_crowdedSet, Cond.code yX0_crowdedSet cX0_crowdedSet 2 (some .int), Cond.methodLink RX0 85 yX0_allArms, Cond.instanceMethod yX0_allArms, Cond.selects RX0 yX0_allArms yX0_allArms, Cond.code yX0_allArms cX0_allArms 1 (some .int), Cond.methodLink RX0 88 yX0_excessOver, Cond.instanceMethod yX0_excessOver, Cond.selects RX0 yX0_excessOver yX0_excessOver, Cond.code yX0_excessOver cX0_excessOver 6 (some .int), Cond.methodLink RX0 171 yX0_reachedFrom, Cond.instanceMethod yX0_reachedFrom, Cond.selects RX0 yX0_reachedFrom yX0_reachedFrom, Cond.code yX0_reachedFrom cX0_reachedFrom 4 (some .int)]
def wsX0_possible_r3 : List Cond := [Cond.fieldLink RX0 23 "TurnEstimator" "targets" "[I", Cond.methodLink RX0 167 yX0_contains, Cond.static yX0_contains, Cond.code yX0_contains cX0_contains 2 (some .boolean), Cond.methodLink RX0 185 yX0_greatestPossible, Cond.instanceMethod yX0_greatestPossible, Cond.selects RX0 yX0_greatestPossible yX0_greatestPossible, Cond.code yX0_greatestPossible cX0_greatestPossible 7 (some .int), Cond.methodLink RX0 192 Lib.Math.min.name, Cond.static Lib.Math.min.name, Cond.initialized "java/lang/Math", Cond.code Lib.Math.min.name Lib.Math.min.code 2 (some .int), Cond.methodLink RX0 189 yX0_isOpen, Cond.instanceMethod yX0_isOpen, Cond.selects RX0 yX0_isOpen yX0_isOpen, Cond.code yX0_isOpen cX0_isOpen 3 (some .boolean), Cond.methodLink RX0 57 yX0_turn, Cond.static yX0_turn, Cond.code yX0_turn cX0_turn 2 (some .int)]
def wsX0_possible : List Cond := .code yX0_possible cX0_possible 3 (some .int) :: ((wsX0_possible_r1 ++ (wsX0_possible_r2 ++ wsX0_possible_r3)) ++ wsX00 ++ (vx_atM "java/lang/ArrayIndexOutOfBoundsException" ["java/lang/IndexOutOfBoundsException", "java/lang/RuntimeException", "java/lang/Exception"]).filter goodWord ++ (vx_atS RX0 156 "java/lang/IndexOutOfBoundsException" ["java/lang/RuntimeException", "java/lang/Exception"]).filter goodWord)
def wsX0_mixed : List Cond := .code yX0_mixed cX0_mixed 4 (some .long) :: ([.constantLong RX0 214 (31)])
def wsX0_thousandthsOf : List Cond := .code yX0_thousandthsOf cX0_thousandthsOf 2 (some .long) :: ([.constantDouble RX0 99 (4652007308841189376)])
def wsX0_mixedTurn : List Cond := .code yX0_mixedTurn cX0_mixedTurn 6 (some .long) :: ([.fieldLink RX0 16 "TurnEstimator" "weights" "[I", .fieldLink RX0 19 "TurnEstimator" "estimates" "[D", .fieldLink RX0 26 "TurnEstimator" "roundedTable" "[I", .fieldLink RX0 29 "TurnEstimator" "possibleTable" "[I", .methodLink RX0 137 yX0_mixed, .static yX0_mixed, .initialized RX0, .code yX0_mixed cX0_mixed 4 (some .long), .constantLong RX0 214 (31), .methodLink RX0 145 yX0_thousandthsOf, .static yX0_thousandthsOf, .code yX0_thousandthsOf cX0_thousandthsOf 2 (some .long), .constantDouble RX0 99 (4652007308841189376)] ++ wsX00 ++ (vx_atM "java/lang/ArrayIndexOutOfBoundsException" ["java/lang/IndexOutOfBoundsException", "java/lang/RuntimeException", "java/lang/Exception"]).filter goodWord)
def wsX0_digest_r1 : List Cond := [Cond.constantLong RX0 135 (1873), Cond.fieldLink RX0 46 "TurnEstimator" "armCount" "I", Cond.fieldLink RX0 9 "TurnEstimator" "inflows" "[I", Cond.fieldLink RX0 13 "TurnEstimator" "outflows" "[I", Cond.fieldLink RX0 95 "TurnEstimator" "roundCount" "I", Cond.methodLink RX0 126 yX0_roundAllRows, Cond.instanceMethod yX0_roundAllRows, Cond.selects RX0 yX0_roundAllRows yX0_roundAllRows, Cond.initialized RX0, Cond.code yX0_roundAllRows cX0_roundAllRows 2 none, Cond.methodLink RX0 123 yX0_roundRow, Cond.instanceMethod yX0_roundRow, Cond.selects RX0 yX0_roundRow yX0_roundRow, Cond.code yX0_roundRow cX0_roundRow 9 none, Cond.fieldLink RX0 19 "TurnEstimator" "estimates" "[D", Cond.fieldLink RX0 26 "TurnEstimator" "roundedTable" "[I", Cond.fieldLink RX0 35 "TurnEstimator" "fractions" "[D", Cond.methodLink RX0 109 yX0_rowSum, Cond.instanceMethod yX0_rowSum, Cond.selects RX0 yX0_rowSum yX0_rowSum, Cond.code yX0_rowSum cX0_rowSum 5 (some .double), Cond.methodLink RX0 57 yX0_turn, Cond.static yX0_turn, Cond.code yX0_turn cX0_turn 2 (some .int)]
def wsX0_digest_r2 : List Cond := [Cond.methodLink RX0 203 yX0_raiseGreatestFractions, Cond.instanceMethod yX0_raiseGreatestFractions, Cond.selects RX0 yX0_raiseGreatestFractions yX0_raiseGreatestFractions, Cond.code yX0_raiseGreatestFractions cX0_raiseGreatestFractions 6 none, Cond.methodLink RX0 192 Lib.Math.min.name, Cond.static Lib.Math.min.name, Cond.initialized "java/lang/Math", Cond.code Lib.Math.min.name Lib.Math.min.code 2 (some .int), Cond.constantDouble RX0 209 (13830554455654793216), Cond.methodLink RX0 206 yX0_greatestFraction, Cond.instanceMethod yX0_greatestFraction, Cond.selects RX0 yX0_greatestFraction yX0_greatestFraction, Cond.code yX0_greatestFraction cX0_greatestFraction 6 (some .int), Cond.methodLink RX0 189 yX0_isOpen, Cond.instanceMethod yX0_isOpen, Cond.selects RX0 yX0_isOpen yX0_isOpen, Cond.code yX0_isOpen cX0_isOpen 3 (some .boolean), Cond.fieldLink RX0 23 "TurnEstimator" "targets" "[I", Cond.methodLink RX0 167 yX0_contains, Cond.static yX0_contains, Cond.code yX0_contains cX0_contains 2 (some .boolean), Cond.methodLink RX0 132 yX0_fillPossibleTable, Cond.instanceMethod yX0_fillPossibleTable, Cond.selects RX0 yX0_fillPossibleTable yX0_fillPossibleTable]
def wsX0_digest_r3 : List Cond := [Cond.code yX0_fillPossibleTable cX0_fillPossibleTable 6 none, Cond.fieldLink RX0 32 "TurnEstimator" "outflowsLeft" "[I", Cond.methodLink RX0 179 arraycopyName, Cond.native arraycopyName, Cond.static arraycopyName, Cond.initialized "java/lang/System", Cond.fieldLink RX0 29 "TurnEstimator" "possibleTable" "[I", Cond.methodLink RX0 175 yX0_isPossible, Cond.instanceMethod yX0_isPossible, Cond.selects RX0 yX0_isPossible yX0_isPossible, Cond.code yX0_isPossible cX0_isPossible 1 (some .boolean), Cond.methodLink RX0 78 yX0_imbalance, Cond.instanceMethod yX0_imbalance, Cond.selects RX0 yX0_imbalance yX0_imbalance, Cond.code yX0_imbalance cX0_imbalance 1 (some .int), Cond.methodLink RX0 74 yX0_total, Cond.instanceMethod yX0_total, Cond.selects RX0 yX0_total yX0_total, Cond.code yX0_total cX0_total 4 (some .int), Cond.methodLink RX0 82 yX0_crowdedSet, Cond.instanceMethod yX0_crowdedSet, Cond.selects RX0 yX0_crowdedSet yX0_crowdedSet, Cond.code yX0_crowdedSet cX0_crowdedSet 2 (some .int), Cond.methodLink RX0 85 yX0_allArms]
def wsX0_digest_r4 : List Cond := [Cond.instanceMethod yX0_allArms, Cond.selects RX0 yX0_allArms yX0_allArms, Cond.code yX0_allArms cX0_allArms 1 (some .int), Cond.methodLink RX0 88 yX0_excessOver, Cond.instanceMethod yX0_excessOver, Cond.selects RX0 yX0_excessOver yX0_excessOver, Cond.code yX0_excessOver cX0_excessOver 6 (some .int), Cond.methodLink RX0 171 yX0_reachedFrom, Cond.instanceMethod yX0_reachedFrom, Cond.selects RX0 yX0_reachedFrom yX0_reachedFrom, Cond.code yX0_reachedFrom cX0_reachedFrom 4 (some .int), Cond.methodLink RX0 185 yX0_greatestPossible, Cond.instanceMethod yX0_greatestPossible, Cond.selects RX0 yX0_greatestPossible yX0_greatestPossible, Cond.code yX0_greatestPossible cX0_greatestPossible 7 (some .int), Cond.methodLink RX0 137 yX0_mixed, Cond.static yX0_mixed, Cond.code yX0_mixed cX0_mixed 4 (some .long), Cond.constantLong RX0 214 (31), Cond.methodLink RX0 141 yX0_mixedTurn, Cond.instanceMethod yX0_mixedTurn, Cond.selects RX0 yX0_mixedTurn yX0_mixedTurn, Cond.code yX0_mixedTurn cX0_mixedTurn 6 (some .long), Cond.fieldLink RX0 16 "TurnEstimator" "weights" "[I"]
def wsX0_digest_r5 : List Cond := [Cond.methodLink RX0 145 yX0_thousandthsOf, Cond.static yX0_thousandthsOf, Cond.code yX0_thousandthsOf cX0_thousandthsOf 2 (some .long), Cond.constantDouble RX0 99 (4652007308841189376), Cond.methodLink RX0 101 yX0_misfit, Cond.instanceMethod yX0_misfit, Cond.selects RX0 yX0_misfit yX0_misfit, Cond.code yX0_misfit cX0_misfit 8 (some .double), Cond.methodLink RX0 112 yX0_distance, Cond.static yX0_distance, Cond.code yX0_distance cX0_distance 6 (some .double), Cond.methodLink RX0 105 yX0_columnSum, Cond.instanceMethod yX0_columnSum, Cond.selects RX0 yX0_columnSum yX0_columnSum, Cond.code yX0_columnSum cX0_columnSum 5 (some .double), Cond.methodLink RX0 149 yX0_busiestTurn, Cond.instanceMethod yX0_busiestTurn, Cond.selects RX0 yX0_busiestTurn yX0_busiestTurn, Cond.code yX0_busiestTurn cX0_busiestTurn 6 (some .int), Cond.methodLink RX0 129 yX0_roundedDifference, Cond.instanceMethod yX0_roundedDifference, Cond.selects RX0 yX0_roundedDifference yX0_roundedDifference, Cond.code yX0_roundedDifference cX0_roundedDifference 5 (some .int), Cond.methodLink RX0 211 Lib.Math.abs.name]
def wsX0_digest_r6 : List Cond := [Cond.static Lib.Math.abs.name, Cond.code Lib.Math.abs.name Lib.Math.abs.code 1 (some .int)]
def wsX0_digest : List Cond := .code yX0_digest cX0_digest 5 (some .long) :: ((wsX0_digest_r1 ++ (wsX0_digest_r2 ++ (wsX0_digest_r3 ++ (wsX0_digest_r4 ++ (wsX0_digest_r5 ++ wsX0_digest_r6))))) ++ wsX00 ++ (vx_atM "java/lang/ArrayIndexOutOfBoundsException" ["java/lang/IndexOutOfBoundsException", "java/lang/RuntimeException", "java/lang/Exception"]).filter goodWord)
def wsX1_layWeights : List Cond := .code yX1_layWeights cX1_layWeights 2 none :: ([.fieldLink RX1 23 "TurnEstimatorModel" "estimates" "[D", .fieldLink RX1 20 "TurnEstimatorModel" "weights" "[I", .fieldLink RX1 52 "TurnEstimatorModel" "roundsDone" "I"] ++ wsX10 ++ (vx_atM "java/lang/ArrayIndexOutOfBoundsException" ["java/lang/IndexOutOfBoundsException", "java/lang/RuntimeException", "java/lang/Exception"]).filter goodWord)
def wsX1_begin : List Cond := .code yX1_begin cX1_begin 2 none :: ([.fieldLink RX1 20 "TurnEstimatorModel" "weights" "[I", .fieldLink RX1 13 "TurnEstimatorModel" "inflow" "[I", .fieldLink RX1 17 "TurnEstimatorModel" "outflow" "[I", .methodLink RX1 55 yX1_layWeights, .instanceMethod yX1_layWeights, .selects RX1 yX1_layWeights yX1_layWeights, .initialized RX1, .code yX1_layWeights cX1_layWeights 2 none, .fieldLink RX1 23 "TurnEstimatorModel" "estimates" "[D", .fieldLink RX1 52 "TurnEstimatorModel" "roundsDone" "I"] ++ wsX10 ++ (vx_atM "java/lang/ArrayIndexOutOfBoundsException" ["java/lang/IndexOutOfBoundsException", "java/lang/RuntimeException", "java/lang/Exception"]).filter goodWord)
def wsX1_init_r1 : List Cond := [Cond.methodLink RX1 1 objectInit, Cond.instanceMethod objectInit, Cond.code objectInit ⟨#[0xb1]⟩ 1 none, Cond.fieldLink RX1 7 "TurnEstimatorModel" "arms" "I", Cond.arrayClass .int, Cond.fieldLink RX1 13 "TurnEstimatorModel" "inflow" "[I", Cond.fieldLink RX1 17 "TurnEstimatorModel" "outflow" "[I", Cond.fieldLink RX1 20 "TurnEstimatorModel" "weights" "[I", Cond.arrayClass .double, Cond.fieldLink RX1 23 "TurnEstimatorModel" "estimates" "[D", Cond.fieldLink RX1 27 "TurnEstimatorModel" "whole" "[I", Cond.fieldLink RX1 30 "TurnEstimatorModel" "fraction" "[D", Cond.fieldLink RX1 33 "TurnEstimatorModel" "table" "[I", Cond.fieldLink RX1 36 "TurnEstimatorModel" "rowLeft" "[I", Cond.fieldLink RX1 39 "TurnEstimatorModel" "columnLeft" "[I", Cond.methodLink RX1 42 yX1_begin, Cond.instanceMethod yX1_begin, Cond.selects RX1 yX1_begin yX1_begin, Cond.initialized RX1, Cond.code yX1_begin cX1_begin 2 none, Cond.methodLink RX1 55 yX1_layWeights, Cond.instanceMethod yX1_layWeights, Cond.selects RX1 yX1_layWeights yX1_layWeights, Cond.code yX1_layWeights cX1_layWeights 2 none]
def wsX1_init_r2 : List Cond := [Cond.fieldLink RX1 52 "TurnEstimatorModel" "roundsDone" "I"]
def wsX1_init : List Cond := .code yX1_init cX1_init 1 none :: ((wsX1_init_r1 ++ wsX1_init_r2) ++ wsX10 ++ (vx_atM "java/lang/ArrayIndexOutOfBoundsException" ["java/lang/IndexOutOfBoundsException", "java/lang/RuntimeException", "java/lang/Exception"]).filter goodWord)
def wsX1_thrown : List Cond := .code yX1_thrown cX1_thrown 1 (some .int) :: ([.fieldLink RX1 45 "TurnEstimatorModel" "thrown" "I"] ++ wsX10)
def wsX1_within : List Cond := .code yX1_within cX1_within 3 (some .boolean) :: ([])
def wsX1_isArm : List Cond := .code yX1_isArm cX1_isArm 2 (some .boolean) :: ([.fieldLink RX1 7 "TurnEstimatorModel" "arms" "I", .methodLink RX1 48 yX1_within, .static yX1_within, .initialized RX1, .code yX1_within cX1_within 3 (some .boolean)] ++ wsX10)
def wsX1_setArms : List Cond := .code yX1_setArms cX1_setArms 3 (some .int) :: ([.fieldLink RX1 45 "TurnEstimatorModel" "thrown" "I", .fieldLink RX1 7 "TurnEstimatorModel" "arms" "I", .methodLink RX1 48 yX1_within, .static yX1_within, .initialized RX1, .code yX1_within cX1_within 3 (some .boolean), .methodLink RX1 42 yX1_begin, .instanceMethod yX1_begin, .selects RX1 yX1_begin yX1_begin, .code yX1_begin cX1_begin 2 none, .fieldLink RX1 20 "TurnEstimatorModel" "weights" "[I", .fieldLink RX1 13 "TurnEstimatorModel" "inflow" "[I", .fieldLink RX1 17 "TurnEstimatorModel" "outflow" "[I", .methodLink RX1 55 yX1_layWeights, .instanceMethod yX1_layWeights, .selects RX1 yX1_layWeights yX1_layWeights, .code yX1_layWeights cX1_layWeights 2 none, .fieldLink RX1 23 "TurnEstimatorModel" "estimates" "[D", .fieldLink RX1 52 "TurnEstimatorModel" "roundsDone" "I"] ++ wsX10 ++ (vx_atM "java/lang/ArrayIndexOutOfBoundsException" ["java/lang/IndexOutOfBoundsException", "java/lang/RuntimeException", "java/lang/Exception"]).filter goodWord)
def wsX1_arms : List Cond := .code yX1_arms cX1_arms 1 (some .int) :: ([.fieldLink RX1 45 "TurnEstimatorModel" "thrown" "I", .fieldLink RX1 7 "TurnEstimatorModel" "arms" "I"] ++ wsX10)
def wsX1_setInflow : List Cond := .code yX1_setInflow cX1_setInflow 4 (some .int) :: ([.fieldLink RX1 45 "TurnEstimatorModel" "thrown" "I", .fieldLink RX1 13 "TurnEstimatorModel" "inflow" "[I", .methodLink RX1 58 yX1_isArm, .instanceMethod yX1_isArm, .selects RX1 yX1_isArm yX1_isArm, .initialized RX1, .code yX1_isArm cX1_isArm 2 (some .boolean), .fieldLink RX1 7 "TurnEstimatorModel" "arms" "I", .methodLink RX1 48 yX1_within, .static yX1_within, .code yX1_within cX1_within 3 (some .boolean), .methodLink RX1 55 yX1_layWeights, .instanceMethod yX1_layWeights, .selects RX1 yX1_layWeights yX1_layWeights, .code yX1_layWeights cX1_layWeights 2 none, .fieldLink RX1 23 "TurnEstimatorModel" "estimates" "[D", .fieldLink RX1 20 "TurnEstimatorModel" "weights" "[I", .fieldLink RX1 52 "TurnEstimatorModel" "roundsDone" "I"] ++ wsX10 ++ (vx_atM "java/lang/ArrayIndexOutOfBoundsException" ["java/lang/IndexOutOfBoundsException", "java/lang/RuntimeException", "java/lang/Exception"]).filter goodWord)
def wsX1_setOutflow : List Cond := .code yX1_setOutflow cX1_setOutflow 4 (some .int) :: ([.fieldLink RX1 45 "TurnEstimatorModel" "thrown" "I", .fieldLink RX1 17 "TurnEstimatorModel" "outflow" "[I", .methodLink RX1 58 yX1_isArm, .instanceMethod yX1_isArm, .selects RX1 yX1_isArm yX1_isArm, .initialized RX1, .code yX1_isArm cX1_isArm 2 (some .boolean), .fieldLink RX1 7 "TurnEstimatorModel" "arms" "I", .methodLink RX1 48 yX1_within, .static yX1_within, .code yX1_within cX1_within 3 (some .boolean), .methodLink RX1 55 yX1_layWeights, .instanceMethod yX1_layWeights, .selects RX1 yX1_layWeights yX1_layWeights, .code yX1_layWeights cX1_layWeights 2 none, .fieldLink RX1 23 "TurnEstimatorModel" "estimates" "[D", .fieldLink RX1 20 "TurnEstimatorModel" "weights" "[I", .fieldLink RX1 52 "TurnEstimatorModel" "roundsDone" "I"] ++ wsX10 ++ (vx_atM "java/lang/ArrayIndexOutOfBoundsException" ["java/lang/IndexOutOfBoundsException", "java/lang/RuntimeException", "java/lang/Exception"]).filter goodWord)
def wsX1_setWeight : List Cond := .code yX1_setWeight cX1_setWeight 5 (some .int) :: ([.fieldLink RX1 45 "TurnEstimatorModel" "thrown" "I", .fieldLink RX1 20 "TurnEstimatorModel" "weights" "[I", .methodLink RX1 58 yX1_isArm, .instanceMethod yX1_isArm, .selects RX1 yX1_isArm yX1_isArm, .initialized RX1, .code yX1_isArm cX1_isArm 2 (some .boolean), .fieldLink RX1 7 "TurnEstimatorModel" "arms" "I", .methodLink RX1 48 yX1_within, .static yX1_within, .code yX1_within cX1_within 3 (some .boolean), .methodLink RX1 55 yX1_layWeights, .instanceMethod yX1_layWeights, .selects RX1 yX1_layWeights yX1_layWeights, .code yX1_layWeights cX1_layWeights 2 none, .fieldLink RX1 23 "TurnEstimatorModel" "estimates" "[D", .fieldLink RX1 52 "TurnEstimatorModel" "roundsDone" "I"] ++ wsX10 ++ (vx_atM "java/lang/ArrayIndexOutOfBoundsException" ["java/lang/IndexOutOfBoundsException", "java/lang/RuntimeException", "java/lang/Exception"]).filter goodWord)
def wsX1_scaled : List Cond := .code yX1_scaled cX1_scaled 2 (some .int) :: ([])
def wsX1_isScalable : List Cond := .code yX1_isScalable cX1_isScalable 4 (some .boolean) :: ([.fieldLink RX1 7 "TurnEstimatorModel" "arms" "I", .fieldLink RX1 13 "TurnEstimatorModel" "inflow" "[I", .fieldLink RX1 17 "TurnEstimatorModel" "outflow" "[I", .methodLink RX1 62 yX1_scaled, .static yX1_scaled, .initialized RX1, .code yX1_scaled cX1_scaled 2 (some .int)] ++ wsX10 ++ (vx_atM "java/lang/ArrayIndexOutOfBoundsException" ["java/lang/IndexOutOfBoundsException", "java/lang/RuntimeException", "java/lang/Exception"]).filter goodWord)
def wsX1_scale : List Cond := .code yX1_scale cX1_scale 4 (some .int) :: ([.fieldLink RX1 45 "TurnEstimatorModel" "thrown" "I", .fieldLink RX1 7 "TurnEstimatorModel" "arms" "I", .fieldLink RX1 13 "TurnEstimatorModel" "inflow" "[I", .fieldLink RX1 17 "TurnEstimatorModel" "outflow" "[I", .methodLink RX1 48 yX1_within, .static yX1_within, .initialized RX1, .code yX1_within cX1_within 3 (some .boolean), .methodLink RX1 66 yX1_isScalable, .instanceMethod yX1_isScalable, .selects RX1 yX1_isScalable yX1_isScalable, .code yX1_isScalable cX1_isScalable 4 (some .boolean), .methodLink RX1 62 yX1_scaled, .static yX1_scaled, .code yX1_scaled cX1_scaled 2 (some .int), .methodLink RX1 55 yX1_layWeights, .instanceMethod yX1_layWeights, .selects RX1 yX1_layWeights yX1_layWeights, .code yX1_layWeights cX1_layWeights 2 none, .fieldLink RX1 23 "TurnEstimatorModel" "estimates" "[D", .fieldLink RX1 20 "TurnEstimatorModel" "weights" "[I", .fieldLink RX1 52 "TurnEstimatorModel" "roundsDone" "I"] ++ wsX10 ++ (vx_atM "java/lang/ArrayIndexOutOfBoundsException" ["java/lang/IndexOutOfBoundsException", "java/lang/RuntimeException", "java/lang/Exception"]).filter goodWord)
def wsX1_difference : List Cond := .code yX1_difference cX1_difference 3 (some .int) :: ([.fieldLink RX1 7 "TurnEstimatorModel" "arms" "I", .fieldLink RX1 13 "TurnEstimatorModel" "inflow" "[I", .fieldLink RX1 17 "TurnEstimatorModel" "outflow" "[I"] ++ wsX10 ++ (vx_atM "java/lang/ArrayIndexOutOfBoundsException" ["java/lang/IndexOutOfBoundsException", "java/lang/RuntimeException", "java/lang/Exception"]).filter goodWord)
def wsX1_imbalance : List Cond := .code yX1_imbalance cX1_imbalance 1 (some .int) :: ([.fieldLink RX1 45 "TurnEstimatorModel" "thrown" "I", .methodLink RX1 69 yX1_difference, .instanceMethod yX1_difference, .selects RX1 yX1_difference yX1_difference, .initialized RX1, .code yX1_difference cX1_difference 3 (some .int), .fieldLink RX1 7 "TurnEstimatorModel" "arms" "I", .fieldLink RX1 13 "TurnEstimatorModel" "inflow" "[I", .fieldLink RX1 17 "TurnEstimatorModel" "outflow" "[I"] ++ wsX10 ++ (vx_atM "java/lang/ArrayIndexOutOfBoundsException" ["java/lang/IndexOutOfBoundsException", "java/lang/RuntimeException", "java/lang/Exception"]).filter goodWord)
def wsX1_excessOf : List Cond := .code yX1_excessOf cX1_excessOf 6 (some .int) :: ([.fieldLink RX1 7 "TurnEstimatorModel" "arms" "I", .fieldLink RX1 20 "TurnEstimatorModel" "weights" "[I", .fieldLink RX1 13 "TurnEstimatorModel" "inflow" "[I", .fieldLink RX1 17 "TurnEstimatorModel" "outflow" "[I"] ++ wsX10 ++ (vx_atM "java/lang/ArrayIndexOutOfBoundsException" ["java/lang/IndexOutOfBoundsException", "java/lang/RuntimeException", "java/lang/Exception"]).filter goodWord)
def wsX1_crowded : List Cond := .code yX1_crowded cX1_crowded 2 (some .int) :: ([.fieldLink RX1 7 "TurnEstimatorModel" "arms" "I", .methodLink RX1 73 yX1_excessOf, .instanceMethod yX1_excessOf, .selects RX1 yX1_excessOf yX1_excessOf, .initialized RX1, .code yX1_excessOf cX1_excessOf 6 (some .int), .fieldLink RX1 20 "TurnEstimatorModel" "weights" "[I", .fieldLink RX1 13 "TurnEstimatorModel" "inflow" "[I", .fieldLink RX1 17 "TurnEstimatorModel" "outflow" "[I"] ++ wsX10 ++ (vx_atM "java/lang/ArrayIndexOutOfBoundsException" ["java/lang/IndexOutOfBoundsException", "java/lang/RuntimeException", "java/lang/Exception"]).filter goodWord)
def wsX1_arePossible : List Cond := .code yX1_arePossible cX1_arePossible 1 (some .boolean) :: ([.methodLink RX1 69 yX1_difference, .instanceMethod yX1_difference, .selects RX1 yX1_difference yX1_difference, .initialized RX1, .code yX1_difference cX1_difference 3 (some .int), .fieldLink RX1 7 "TurnEstimatorModel" "arms" "I", .fieldLink RX1 13 "TurnEstimatorModel" "inflow" "[I", .fieldLink RX1 17 "TurnEstimatorModel" "outflow" "[I", .methodLink RX1 77 yX1_crowded, .instanceMethod yX1_crowded, .selects RX1 yX1_crowded yX1_crowded, .code yX1_crowded cX1_crowded 2 (some .int), .methodLink RX1 73 yX1_excessOf, .instanceMethod yX1_excessOf, .selects RX1 yX1_excessOf yX1_excessOf, .code yX1_excessOf cX1_excessOf 6 (some .int), .fieldLink RX1 20 "TurnEstimatorModel" "weights" "[I"] ++ wsX10 ++ (vx_atM "java/lang/ArrayIndexOutOfBoundsException" ["java/lang/IndexOutOfBoundsException", "java/lang/RuntimeException", "java/lang/Exception"]).filter goodWord)
def wsX1_isPossible : List Cond := .code yX1_isPossible cX1_isPossible 1 (some .boolean) :: ([.fieldLink RX1 45 "TurnEstimatorModel" "thrown" "I", .methodLink RX1 80 yX1_arePossible, .instanceMethod yX1_arePossible, .selects RX1 yX1_arePossible yX1_arePossible, .initialized RX1, .code yX1_arePossible cX1_arePossible 1 (some .boolean), .methodLink RX1 69 yX1_difference, .instanceMethod yX1_difference, .selects RX1 yX1_difference yX1_difference, .code yX1_difference cX1_difference 3 (some .int), .fieldLink RX1 7 "TurnEstimatorModel" "arms" "I", .fieldLink RX1 13 "TurnEstimatorModel" "inflow" "[I", .fieldLink RX1 17 "TurnEstimatorModel" "outflow" "[I", .methodLink RX1 77 yX1_crowded, .instanceMethod yX1_crowded, .selects RX1 yX1_crowded yX1_crowded, .code yX1_crowded cX1_crowded 2 (some .int), .methodLink RX1 73 yX1_excessOf, .instanceMethod yX1_excessOf, .selects RX1 yX1_excessOf yX1_excessOf, .code yX1_excessOf cX1_excessOf 6 (some .int), .fieldLink RX1 20 "TurnEstimatorModel" "weights" "[I"] ++ wsX10 ++ (vx_atM "java/lang/ArrayIndexOutOfBoundsException" ["java/lang/IndexOutOfBoundsException", "java/lang/RuntimeException", "java/lang/Exception"]).filter goodWord)
def wsX1_crowdedSet : List Cond := .code yX1_crowdedSet cX1_crowdedSet 1 (some .int) :: ([.fieldLink RX1 45 "TurnEstimatorModel" "thrown" "I", .methodLink RX1 77 yX1_crowded, .instanceMethod yX1_crowded, .selects RX1 yX1_crowded yX1_crowded, .initialized RX1, .code yX1_crowded cX1_crowded 2 (some .int), .fieldLink RX1 7 "TurnEstimatorModel" "arms" "I", .methodLink RX1 73 yX1_excessOf, .instanceMethod yX1_excessOf, .selects RX1 yX1_excessOf yX1_excessOf, .code yX1_excessOf cX1_excessOf 6 (some .int), .fieldLink RX1 20 "TurnEstimatorModel" "weights" "[I", .fieldLink RX1 13 "TurnEstimatorModel" "inflow" "[I", .fieldLink RX1 17 "TurnEstimatorModel" "outflow" "[I"] ++ wsX10 ++ (vx_atM "java/lang/ArrayIndexOutOfBoundsException" ["java/lang/IndexOutOfBoundsException", "java/lang/RuntimeException", "java/lang/Exception"]).filter goodWord)
def wsX1_excess : List Cond := .code yX1_excess cX1_excess 2 (some .int) :: ([.fieldLink RX1 7 "TurnEstimatorModel" "arms" "I", .fieldLink RX1 45 "TurnEstimatorModel" "thrown" "I", .methodLink RX1 48 yX1_within, .static yX1_within, .initialized RX1, .code yX1_within cX1_within 3 (some .boolean), .methodLink RX1 73 yX1_excessOf, .instanceMethod yX1_excessOf, .selects RX1 yX1_excessOf yX1_excessOf, .code yX1_excessOf cX1_excessOf 6 (some .int), .fieldLink RX1 20 "TurnEstimatorModel" "weights" "[I", .fieldLink RX1 13 "TurnEstimatorModel" "inflow" "[I", .fieldLink RX1 17 "TurnEstimatorModel" "outflow" "[I"] ++ wsX10 ++ (vx_atM "java/lang/ArrayIndexOutOfBoundsException" ["java/lang/IndexOutOfBoundsException", "java/lang/RuntimeException", "java/lang/Exception"]).filter goodWord)
def wsX1_rowSum : List Cond := .code yX1_rowSum cX1_rowSum 5 (some .double) :: ([.fieldLink RX1 7 "TurnEstimatorModel" "arms" "I", .fieldLink RX1 23 "TurnEstimatorModel" "estimates" "[D"] ++ wsX10 ++ (vx_atM "java/lang/ArrayIndexOutOfBoundsException" ["java/lang/IndexOutOfBoundsException", "java/lang/RuntimeException", "java/lang/Exception"]).filter goodWord)
def wsX1_columnSum : List Cond := .code yX1_columnSum cX1_columnSum 5 (some .double) :: ([.fieldLink RX1 7 "TurnEstimatorModel" "arms" "I", .fieldLink RX1 23 "TurnEstimatorModel" "estimates" "[D"] ++ wsX10 ++ (vx_atM "java/lang/ArrayIndexOutOfBoundsException" ["java/lang/IndexOutOfBoundsException", "java/lang/RuntimeException", "java/lang/Exception"]).filter goodWord)
def wsX1_rowStep : List Cond := .code yX1_rowStep cX1_rowStep 7 none :: ([.fieldLink RX1 13 "TurnEstimatorModel" "inflow" "[I", .fieldLink RX1 7 "TurnEstimatorModel" "arms" "I", .fieldLink RX1 23 "TurnEstimatorModel" "estimates" "[D", .methodLink RX1 84 yX1_rowSum, .instanceMethod yX1_rowSum, .selects RX1 yX1_rowSum yX1_rowSum, .initialized RX1, .code yX1_rowSum cX1_rowSum 5 (some .double)] ++ wsX10 ++ (vx_atM "java/lang/ArrayIndexOutOfBoundsException" ["java/lang/IndexOutOfBoundsException", "java/lang/RuntimeException", "java/lang/Exception"]).filter goodWord)
def wsX1_columnStep : List Cond := .code yX1_columnStep cX1_columnStep 7 none :: ([.fieldLink RX1 17 "TurnEstimatorModel" "outflow" "[I", .fieldLink RX1 7 "TurnEstimatorModel" "arms" "I", .fieldLink RX1 23 "TurnEstimatorModel" "estimates" "[D", .methodLink RX1 88 yX1_columnSum, .instanceMethod yX1_columnSum, .selects RX1 yX1_columnSum yX1_columnSum, .initialized RX1, .code yX1_columnSum cX1_columnSum 5 (some .double)] ++ wsX10 ++ (vx_atM "java/lang/ArrayIndexOutOfBoundsException" ["java/lang/IndexOutOfBoundsException", "java/lang/RuntimeException", "java/lang/Exception"]).filter goodWord)
def wsX1_oneRound : List Cond := .code yX1_oneRound cX1_oneRound 2 none :: ([.fieldLink RX1 7 "TurnEstimatorModel" "arms" "I", .fieldLink RX1 52 "TurnEstimatorModel" "roundsDone" "I", .methodLink RX1 91 yX1_rowStep, .instanceMethod yX1_rowStep, .selects RX1 yX1_rowStep yX1_rowStep, .initialized RX1, .code yX1_rowStep cX1_rowStep 7 none, .fieldLink RX1 13 "TurnEstimatorModel" "inflow" "[I", .fieldLink RX1 23 "TurnEstimatorModel" "estimates" "[D", .methodLink RX1 84 yX1_rowSum, .instanceMethod yX1_rowSum, .selects RX1 yX1_rowSum yX1_rowSum, .code yX1_rowSum cX1_rowSum 5 (some .double), .methodLink RX1 95 yX1_columnStep, .instanceMethod yX1_columnStep, .selects RX1 yX1_columnStep yX1_columnStep, .code yX1_columnStep cX1_columnStep 7 none, .fieldLink RX1 17 "TurnEstimatorModel" "outflow" "[I", .methodLink RX1 88 yX1_columnSum, .instanceMethod yX1_columnSum, .selects RX1 yX1_columnSum yX1_columnSum, .code yX1_columnSum cX1_columnSum 5 (some .double)] ++ wsX10 ++ (vx_atM "java/lang/ArrayIndexOutOfBoundsException" ["java/lang/IndexOutOfBoundsException", "java/lang/RuntimeException", "java/lang/Exception"]).filter goodWord)
def wsX1_far : List Cond := .code yX1_far cX1_far 4 (some .double) :: ([])
def wsX1_misfitNow : List Cond := .code yX1_misfitNow cX1_misfitNow 8 (some .double) :: ([.fieldLink RX1 7 "TurnEstimatorModel" "arms" "I", .fieldLink RX1 13 "TurnEstimatorModel" "inflow" "[I", .fieldLink RX1 17 "TurnEstimatorModel" "outflow" "[I", .methodLink RX1 84 yX1_rowSum, .instanceMethod yX1_rowSum, .selects RX1 yX1_rowSum yX1_rowSum, .initialized RX1, .code yX1_rowSum cX1_rowSum 5 (some .double), .fieldLink RX1 23 "TurnEstimatorModel" "estimates" "[D", .methodLink RX1 98 yX1_far, .static yX1_far, .code yX1_far cX1_far 4 (some .double), .methodLink RX1 88 yX1_columnSum, .instanceMethod yX1_columnSum, .selects RX1 yX1_columnSum yX1_columnSum, .code yX1_columnSum cX1_columnSum 5 (some .double)] ++ wsX10 ++ (vx_atM "java/lang/ArrayIndexOutOfBoundsException" ["java/lang/IndexOutOfBoundsException", "java/lang/RuntimeException", "java/lang/Exception"]).filter goodWord)
def wsX1_iterate_r1 : List Cond := [Cond.fieldLink RX1 45 "TurnEstimatorModel" "thrown" "I", Cond.fieldLink RX1 52 "TurnEstimatorModel" "roundsDone" "I", Cond.methodLink RX1 48 yX1_within, Cond.static yX1_within, Cond.initialized RX1, Cond.code yX1_within cX1_within 3 (some .boolean), Cond.methodLink RX1 102 yX1_oneRound, Cond.instanceMethod yX1_oneRound, Cond.selects RX1 yX1_oneRound yX1_oneRound, Cond.code yX1_oneRound cX1_oneRound 2 none, Cond.fieldLink RX1 7 "TurnEstimatorModel" "arms" "I", Cond.methodLink RX1 91 yX1_rowStep, Cond.instanceMethod yX1_rowStep, Cond.selects RX1 yX1_rowStep yX1_rowStep, Cond.code yX1_rowStep cX1_rowStep 7 none, Cond.fieldLink RX1 13 "TurnEstimatorModel" "inflow" "[I", Cond.fieldLink RX1 23 "TurnEstimatorModel" "estimates" "[D", Cond.methodLink RX1 84 yX1_rowSum, Cond.instanceMethod yX1_rowSum, Cond.selects RX1 yX1_rowSum yX1_rowSum, Cond.code yX1_rowSum cX1_rowSum 5 (some .double), Cond.methodLink RX1 95 yX1_columnStep, Cond.instanceMethod yX1_columnStep, Cond.selects RX1 yX1_columnStep yX1_columnStep]
def wsX1_iterate_r2 : List Cond := [Cond.code yX1_columnStep cX1_columnStep 7 none, Cond.fieldLink RX1 17 "TurnEstimatorModel" "outflow" "[I", Cond.methodLink RX1 88 yX1_columnSum, Cond.instanceMethod yX1_columnSum, Cond.selects RX1 yX1_columnSum yX1_columnSum, Cond.code yX1_columnSum cX1_columnSum 5 (some .double)]
def wsX1_iterate : List Cond := .code yX1_iterate cX1_iterate 3 (some .int) :: ((wsX1_iterate_r1 ++ wsX1_iterate_r2) ++ wsX10 ++ (vx_atM "java/lang/ArrayIndexOutOfBoundsException" ["java/lang/IndexOutOfBoundsException", "java/lang/RuntimeException", "java/lang/Exception"]).filter goodWord)
def wsX1_fit_r1 : List Cond := [Cond.constant RX1 105 (100000), Cond.fieldLink RX1 45 "TurnEstimatorModel" "thrown" "I", Cond.constantDouble RX1 110 (4652007308841189376), Cond.methodLink RX1 48 yX1_within, Cond.static yX1_within, Cond.initialized RX1, Cond.code yX1_within cX1_within 3 (some .boolean), Cond.methodLink RX1 106 yX1_misfitNow, Cond.instanceMethod yX1_misfitNow, Cond.selects RX1 yX1_misfitNow yX1_misfitNow, Cond.code yX1_misfitNow cX1_misfitNow 8 (some .double), Cond.fieldLink RX1 7 "TurnEstimatorModel" "arms" "I", Cond.fieldLink RX1 13 "TurnEstimatorModel" "inflow" "[I", Cond.fieldLink RX1 17 "TurnEstimatorModel" "outflow" "[I", Cond.methodLink RX1 84 yX1_rowSum, Cond.instanceMethod yX1_rowSum, Cond.selects RX1 yX1_rowSum yX1_rowSum, Cond.code yX1_rowSum cX1_rowSum 5 (some .double), Cond.fieldLink RX1 23 "TurnEstimatorModel" "estimates" "[D", Cond.methodLink RX1 98 yX1_far, Cond.static yX1_far, Cond.code yX1_far cX1_far 4 (some .double), Cond.methodLink RX1 88 yX1_columnSum, Cond.instanceMethod yX1_columnSum]
def wsX1_fit_r2 : List Cond := [Cond.selects RX1 yX1_columnSum yX1_columnSum, Cond.code yX1_columnSum cX1_columnSum 5 (some .double), Cond.methodLink RX1 102 yX1_oneRound, Cond.instanceMethod yX1_oneRound, Cond.selects RX1 yX1_oneRound yX1_oneRound, Cond.code yX1_oneRound cX1_oneRound 2 none, Cond.fieldLink RX1 52 "TurnEstimatorModel" "roundsDone" "I", Cond.methodLink RX1 91 yX1_rowStep, Cond.instanceMethod yX1_rowStep, Cond.selects RX1 yX1_rowStep yX1_rowStep, Cond.code yX1_rowStep cX1_rowStep 7 none, Cond.methodLink RX1 95 yX1_columnStep, Cond.instanceMethod yX1_columnStep, Cond.selects RX1 yX1_columnStep yX1_columnStep, Cond.code yX1_columnStep cX1_columnStep 7 none]
def wsX1_fit : List Cond := .code yX1_fit cX1_fit 4 (some .int) :: ((wsX1_fit_r1 ++ wsX1_fit_r2) ++ wsX10 ++ (vx_atM "java/lang/ArrayIndexOutOfBoundsException" ["java/lang/IndexOutOfBoundsException", "java/lang/RuntimeException", "java/lang/Exception"]).filter goodWord)
def wsX1_reset : List Cond := .code yX1_reset cX1_reset 2 (some .int) :: ([.fieldLink RX1 45 "TurnEstimatorModel" "thrown" "I", .fieldLink RX1 52 "TurnEstimatorModel" "roundsDone" "I", .methodLink RX1 55 yX1_layWeights, .instanceMethod yX1_layWeights, .selects RX1 yX1_layWeights yX1_layWeights, .initialized RX1, .code yX1_layWeights cX1_layWeights 2 none, .fieldLink RX1 23 "TurnEstimatorModel" "estimates" "[D", .fieldLink RX1 20 "TurnEstimatorModel" "weights" "[I"] ++ wsX10 ++ (vx_atM "java/lang/ArrayIndexOutOfBoundsException" ["java/lang/IndexOutOfBoundsException", "java/lang/RuntimeException", "java/lang/Exception"]).filter goodWord)
def wsX1_rounds : List Cond := .code yX1_rounds cX1_rounds 1 (some .int) :: ([.fieldLink RX1 45 "TurnEstimatorModel" "thrown" "I", .fieldLink RX1 52 "TurnEstimatorModel" "roundsDone" "I"] ++ wsX10)
def wsX1_areArms : List Cond := .code yX1_areArms cX1_areArms 3 (some .boolean) :: ([.methodLink RX1 58 yX1_isArm, .instanceMethod yX1_isArm, .selects RX1 yX1_isArm yX1_isArm, .initialized RX1, .code yX1_isArm cX1_isArm 2 (some .boolean), .fieldLink RX1 7 "TurnEstimatorModel" "arms" "I", .methodLink RX1 48 yX1_within, .static yX1_within, .code yX1_within cX1_within 3 (some .boolean)] ++ wsX10)
def wsX1_estimate : List Cond := .code yX1_estimate cX1_estimate 3 (some .double) :: ([.fieldLink RX1 45 "TurnEstimatorModel" "thrown" "I", .fieldLink RX1 23 "TurnEstimatorModel" "estimates" "[D", .methodLink RX1 112 yX1_areArms, .instanceMethod yX1_areArms, .selects RX1 yX1_areArms yX1_areArms, .initialized RX1, .code yX1_areArms cX1_areArms 3 (some .boolean), .methodLink RX1 58 yX1_isArm, .instanceMethod yX1_isArm, .selects RX1 yX1_isArm yX1_isArm, .code yX1_isArm cX1_isArm 2 (some .boolean), .fieldLink RX1 7 "TurnEstimatorModel" "arms" "I", .methodLink RX1 48 yX1_within, .static yX1_within, .code yX1_within cX1_within 3 (some .boolean)] ++ wsX10 ++ (vx_atM "java/lang/ArrayIndexOutOfBoundsException" ["java/lang/IndexOutOfBoundsException", "java/lang/RuntimeException", "java/lang/Exception"]).filter goodWord)
def wsX1_sum : List Cond := .code yX1_sum cX1_sum 3 (some .double) :: ([.fieldLink RX1 45 "TurnEstimatorModel" "thrown" "I", .methodLink RX1 58 yX1_isArm, .instanceMethod yX1_isArm, .selects RX1 yX1_isArm yX1_isArm, .initialized RX1, .code yX1_isArm cX1_isArm 2 (some .boolean), .fieldLink RX1 7 "TurnEstimatorModel" "arms" "I", .methodLink RX1 48 yX1_within, .static yX1_within, .code yX1_within cX1_within 3 (some .boolean), .methodLink RX1 88 yX1_columnSum, .instanceMethod yX1_columnSum, .selects RX1 yX1_columnSum yX1_columnSum, .code yX1_columnSum cX1_columnSum 5 (some .double), .fieldLink RX1 23 "TurnEstimatorModel" "estimates" "[D", .methodLink RX1 84 yX1_rowSum, .instanceMethod yX1_rowSum, .selects RX1 yX1_rowSum yX1_rowSum, .code yX1_rowSum cX1_rowSum 5 (some .double)] ++ wsX10 ++ (vx_atM "java/lang/ArrayIndexOutOfBoundsException" ["java/lang/IndexOutOfBoundsException", "java/lang/RuntimeException", "java/lang/Exception"]).filter goodWord)
def wsX1_misfit : List Cond := .code yX1_misfit cX1_misfit 1 (some .double) :: ([.fieldLink RX1 45 "TurnEstimatorModel" "thrown" "I", .methodLink RX1 106 yX1_misfitNow, .instanceMethod yX1_misfitNow, .selects RX1 yX1_misfitNow yX1_misfitNow, .initialized RX1, .code yX1_misfitNow cX1_misfitNow 8 (some .double), .fieldLink RX1 7 "TurnEstimatorModel" "arms" "I", .fieldLink RX1 13 "TurnEstimatorModel" "inflow" "[I", .fieldLink RX1 17 "TurnEstimatorModel" "outflow" "[I", .methodLink RX1 84 yX1_rowSum, .instanceMethod yX1_rowSum, .selects RX1 yX1_rowSum yX1_rowSum, .code yX1_rowSum cX1_rowSum 5 (some .double), .fieldLink RX1 23 "TurnEstimatorModel" "estimates" "[D", .methodLink RX1 98 yX1_far, .static yX1_far, .code yX1_far cX1_far 4 (some .double), .methodLink RX1 88 yX1_columnSum, .instanceMethod yX1_columnSum, .selects RX1 yX1_columnSum yX1_columnSum, .code yX1_columnSum cX1_columnSum 5 (some .double)] ++ wsX10 ++ (vx_atM "java/lang/ArrayIndexOutOfBoundsException" ["java/lang/IndexOutOfBoundsException", "java/lang/RuntimeException", "java/lang/Exception"]).filter goodWord)
def wsX1_share : List Cond := .code yX1_share cX1_share 3 (some .double) :: ([.fieldLink RX1 45 "TurnEstimatorModel" "thrown" "I", .fieldLink RX1 23 "TurnEstimatorModel" "estimates" "[D", .methodLink RX1 112 yX1_areArms, .instanceMethod yX1_areArms, .selects RX1 yX1_areArms yX1_areArms, .initialized RX1, .code yX1_areArms cX1_areArms 3 (some .boolean), .methodLink RX1 58 yX1_isArm, .instanceMethod yX1_isArm, .selects RX1 yX1_isArm yX1_isArm, .code yX1_isArm cX1_isArm 2 (some .boolean), .fieldLink RX1 7 "TurnEstimatorModel" "arms" "I", .methodLink RX1 48 yX1_within, .static yX1_within, .code yX1_within cX1_within 3 (some .boolean), .methodLink RX1 84 yX1_rowSum, .instanceMethod yX1_rowSum, .selects RX1 yX1_rowSum yX1_rowSum, .code yX1_rowSum cX1_rowSum 5 (some .double)] ++ wsX10 ++ (vx_atM "java/lang/ArrayIndexOutOfBoundsException" ["java/lang/IndexOutOfBoundsException", "java/lang/RuntimeException", "java/lang/Exception"]).filter goodWord)
def wsX1_crossRatio : List Cond := .code yX1_crossRatio cX1_crossRatio 9 (some .double) :: ([.fieldLink RX1 45 "TurnEstimatorModel" "thrown" "I", .fieldLink RX1 23 "TurnEstimatorModel" "estimates" "[D", .methodLink RX1 112 yX1_areArms, .instanceMethod yX1_areArms, .selects RX1 yX1_areArms yX1_areArms, .initialized RX1, .code yX1_areArms cX1_areArms 3 (some .boolean), .methodLink RX1 58 yX1_isArm, .instanceMethod yX1_isArm, .selects RX1 yX1_isArm yX1_isArm, .code yX1_isArm cX1_isArm 2 (some .boolean), .fieldLink RX1 7 "TurnEstimatorModel" "arms" "I", .methodLink RX1 48 yX1_within, .static yX1_within, .code yX1_within cX1_within 3 (some .boolean)] ++ wsX10 ++ (vx_atM "java/lang/ArrayIndexOutOfBoundsException" ["java/lang/IndexOutOfBoundsException", "java/lang/RuntimeException", "java/lang/Exception"]).filter goodWord)
def wsX1_busiest : List Cond := .code yX1_busiest cX1_busiest 8 (some .int) :: ([.fieldLink RX1 7 "TurnEstimatorModel" "arms" "I", .fieldLink RX1 23 "TurnEstimatorModel" "estimates" "[D"] ++ wsX10 ++ (vx_atM "java/lang/ArrayIndexOutOfBoundsException" ["java/lang/IndexOutOfBoundsException", "java/lang/RuntimeException", "java/lang/Exception"]).filter goodWord)
def wsX1_busiestTurn : List Cond := .code yX1_busiestTurn cX1_busiestTurn 1 (some .int) :: ([.fieldLink RX1 45 "TurnEstimatorModel" "thrown" "I", .methodLink RX1 116 yX1_busiest, .instanceMethod yX1_busiest, .selects RX1 yX1_busiest yX1_busiest, .initialized RX1, .code yX1_busiest cX1_busiest 8 (some .int), .fieldLink RX1 7 "TurnEstimatorModel" "arms" "I", .fieldLink RX1 23 "TurnEstimatorModel" "estimates" "[D"] ++ wsX10 ++ (vx_atM "java/lang/ArrayIndexOutOfBoundsException" ["java/lang/IndexOutOfBoundsException", "java/lang/RuntimeException", "java/lang/Exception"]).filter goodWord)
def wsX1_nextOf : List Cond := .code yX1_nextOf cX1_nextOf 5 (some .int) :: ([.fieldLink RX1 7 "TurnEstimatorModel" "arms" "I", .fieldLink RX1 20 "TurnEstimatorModel" "weights" "[I", .fieldLink RX1 30 "TurnEstimatorModel" "fraction" "[D"] ++ wsX10 ++ (vx_atM "java/lang/ArrayIndexOutOfBoundsException" ["java/lang/IndexOutOfBoundsException", "java/lang/RuntimeException", "java/lang/Exception"]).filter goodWord)
def wsX1_roundRow : List Cond := .code yX1_roundRow cX1_roundRow 8 none :: ([.fieldLink RX1 7 "TurnEstimatorModel" "arms" "I", .fieldLink RX1 23 "TurnEstimatorModel" "estimates" "[D", .fieldLink RX1 13 "TurnEstimatorModel" "inflow" "[I", .fieldLink RX1 27 "TurnEstimatorModel" "whole" "[I", .fieldLink RX1 30 "TurnEstimatorModel" "fraction" "[D", .constantDouble RX1 122 (13830554455654793216), .methodLink RX1 84 yX1_rowSum, .instanceMethod yX1_rowSum, .selects RX1 yX1_rowSum yX1_rowSum, .initialized RX1, .code yX1_rowSum cX1_rowSum 5 (some .double), .methodLink RX1 119 yX1_nextOf, .instanceMethod yX1_nextOf, .selects RX1 yX1_nextOf yX1_nextOf, .code yX1_nextOf cX1_nextOf 5 (some .int), .fieldLink RX1 20 "TurnEstimatorModel" "weights" "[I"] ++ wsX10 ++ (vx_atM "java/lang/ArrayIndexOutOfBoundsException" ["java/lang/IndexOutOfBoundsException", "java/lang/RuntimeException", "java/lang/Exception"]).filter goodWord)
def wsX1_layWhole : List Cond := .code yX1_layWhole cX1_layWhole 2 none :: ([.fieldLink RX1 7 "TurnEstimatorModel" "arms" "I", .methodLink RX1 124 yX1_roundRow, .instanceMethod yX1_roundRow, .selects RX1 yX1_roundRow yX1_roundRow, .initialized RX1, .code yX1_roundRow cX1_roundRow 8 none, .fieldLink RX1 23 "TurnEstimatorModel" "estimates" "[D", .fieldLink RX1 13 "TurnEstimatorModel" "inflow" "[I", .fieldLink RX1 27 "TurnEstimatorModel" "whole" "[I", .fieldLink RX1 30 "TurnEstimatorModel" "fraction" "[D", .constantDouble RX1 122 (13830554455654793216), .methodLink RX1 84 yX1_rowSum, .instanceMethod yX1_rowSum, .selects RX1 yX1_rowSum yX1_rowSum, .code yX1_rowSum cX1_rowSum 5 (some .double), .methodLink RX1 119 yX1_nextOf, .instanceMethod yX1_nextOf, .selects RX1 yX1_nextOf yX1_nextOf, .code yX1_nextOf cX1_nextOf 5 (some .int), .fieldLink RX1 20 "TurnEstimatorModel" "weights" "[I"] ++ wsX10 ++ (vx_atM "java/lang/ArrayIndexOutOfBoundsException" ["java/lang/IndexOutOfBoundsException", "java/lang/RuntimeException", "java/lang/Exception"]).filter goodWord)
def wsX1_rounded_r1 : List Cond := [Cond.fieldLink RX1 45 "TurnEstimatorModel" "thrown" "I", Cond.fieldLink RX1 27 "TurnEstimatorModel" "whole" "[I", Cond.methodLink RX1 112 yX1_areArms, Cond.instanceMethod yX1_areArms, Cond.selects RX1 yX1_areArms yX1_areArms, Cond.initialized RX1, Cond.code yX1_areArms cX1_areArms 3 (some .boolean), Cond.methodLink RX1 58 yX1_isArm, Cond.instanceMethod yX1_isArm, Cond.selects RX1 yX1_isArm yX1_isArm, Cond.code yX1_isArm cX1_isArm 2 (some .boolean), Cond.fieldLink RX1 7 "TurnEstimatorModel" "arms" "I", Cond.methodLink RX1 48 yX1_within, Cond.static yX1_within, Cond.code yX1_within cX1_within 3 (some .boolean), Cond.methodLink RX1 124 yX1_roundRow, Cond.instanceMethod yX1_roundRow, Cond.selects RX1 yX1_roundRow yX1_roundRow, Cond.code yX1_roundRow cX1_roundRow 8 none, Cond.fieldLink RX1 23 "TurnEstimatorModel" "estimates" "[D", Cond.fieldLink RX1 13 "TurnEstimatorModel" "inflow" "[I", Cond.fieldLink RX1 30 "TurnEstimatorModel" "fraction" "[D", Cond.constantDouble RX1 122 (13830554455654793216), Cond.methodLink RX1 84 yX1_rowSum]
def wsX1_rounded_r2 : List Cond := [Cond.instanceMethod yX1_rowSum, Cond.selects RX1 yX1_rowSum yX1_rowSum, Cond.code yX1_rowSum cX1_rowSum 5 (some .double), Cond.methodLink RX1 119 yX1_nextOf, Cond.instanceMethod yX1_nextOf, Cond.selects RX1 yX1_nextOf yX1_nextOf, Cond.code yX1_nextOf cX1_nextOf 5 (some .int), Cond.fieldLink RX1 20 "TurnEstimatorModel" "weights" "[I"]
def wsX1_rounded : List Cond := .code yX1_rounded cX1_rounded 3 (some .int) :: ((wsX1_rounded_r1 ++ wsX1_rounded_r2) ++ wsX10 ++ (vx_atM "java/lang/ArrayIndexOutOfBoundsException" ["java/lang/IndexOutOfBoundsException", "java/lang/RuntimeException", "java/lang/Exception"]).filter goodWord)
def wsX1_wholeMisfit_r1 : List Cond := [Cond.fieldLink RX1 7 "TurnEstimatorModel" "arms" "I", Cond.fieldLink RX1 17 "TurnEstimatorModel" "outflow" "[I", Cond.fieldLink RX1 27 "TurnEstimatorModel" "whole" "[I", Cond.methodLink RX1 127 yX1_layWhole, Cond.instanceMethod yX1_layWhole, Cond.selects RX1 yX1_layWhole yX1_layWhole, Cond.initialized RX1, Cond.code yX1_layWhole cX1_layWhole 2 none, Cond.methodLink RX1 124 yX1_roundRow, Cond.instanceMethod yX1_roundRow, Cond.selects RX1 yX1_roundRow yX1_roundRow, Cond.code yX1_roundRow cX1_roundRow 8 none, Cond.fieldLink RX1 23 "TurnEstimatorModel" "estimates" "[D", Cond.fieldLink RX1 13 "TurnEstimatorModel" "inflow" "[I", Cond.fieldLink RX1 30 "TurnEstimatorModel" "fraction" "[D", Cond.constantDouble RX1 122 (13830554455654793216), Cond.methodLink RX1 84 yX1_rowSum, Cond.instanceMethod yX1_rowSum, Cond.selects RX1 yX1_rowSum yX1_rowSum, Cond.code yX1_rowSum cX1_rowSum 5 (some .double), Cond.methodLink RX1 119 yX1_nextOf, Cond.instanceMethod yX1_nextOf, Cond.selects RX1 yX1_nextOf yX1_nextOf, Cond.code yX1_nextOf cX1_nextOf 5 (some .int)]
def wsX1_wholeMisfit_r2 : List Cond := [Cond.fieldLink RX1 20 "TurnEstimatorModel" "weights" "[I"]
def wsX1_wholeMisfit : List Cond := .code yX1_wholeMisfit cX1_wholeMisfit 5 (some .int) :: ((wsX1_wholeMisfit_r1 ++ wsX1_wholeMisfit_r2) ++ wsX10 ++ (vx_atM "java/lang/ArrayIndexOutOfBoundsException" ["java/lang/IndexOutOfBoundsException", "java/lang/RuntimeException", "java/lang/Exception"]).filter goodWord)
def wsX1_roundedMisfit_r1 : List Cond := [Cond.fieldLink RX1 45 "TurnEstimatorModel" "thrown" "I", Cond.methodLink RX1 130 yX1_wholeMisfit, Cond.instanceMethod yX1_wholeMisfit, Cond.selects RX1 yX1_wholeMisfit yX1_wholeMisfit, Cond.initialized RX1, Cond.code yX1_wholeMisfit cX1_wholeMisfit 5 (some .int), Cond.fieldLink RX1 7 "TurnEstimatorModel" "arms" "I", Cond.fieldLink RX1 17 "TurnEstimatorModel" "outflow" "[I", Cond.fieldLink RX1 27 "TurnEstimatorModel" "whole" "[I", Cond.methodLink RX1 127 yX1_layWhole, Cond.instanceMethod yX1_layWhole, Cond.selects RX1 yX1_layWhole yX1_layWhole, Cond.code yX1_layWhole cX1_layWhole 2 none, Cond.methodLink RX1 124 yX1_roundRow, Cond.instanceMethod yX1_roundRow, Cond.selects RX1 yX1_roundRow yX1_roundRow, Cond.code yX1_roundRow cX1_roundRow 8 none, Cond.fieldLink RX1 23 "TurnEstimatorModel" "estimates" "[D", Cond.fieldLink RX1 13 "TurnEstimatorModel" "inflow" "[I", Cond.fieldLink RX1 30 "TurnEstimatorModel" "fraction" "[D", Cond.constantDouble RX1 122 (13830554455654793216), Cond.methodLink RX1 84 yX1_rowSum, Cond.instanceMethod yX1_rowSum, Cond.selects RX1 yX1_rowSum yX1_rowSum]
def wsX1_roundedMisfit_r2 : List Cond := [Cond.code yX1_rowSum cX1_rowSum 5 (some .double), Cond.methodLink RX1 119 yX1_nextOf, Cond.instanceMethod yX1_nextOf, Cond.selects RX1 yX1_nextOf yX1_nextOf, Cond.code yX1_nextOf cX1_nextOf 5 (some .int), Cond.fieldLink RX1 20 "TurnEstimatorModel" "weights" "[I"]
def wsX1_roundedMisfit : List Cond := .code yX1_roundedMisfit cX1_roundedMisfit 1 (some .int) :: ((wsX1_roundedMisfit_r1 ++ wsX1_roundedMisfit_r2) ++ wsX10 ++ (vx_atM "java/lang/ArrayIndexOutOfBoundsException" ["java/lang/IndexOutOfBoundsException", "java/lang/RuntimeException", "java/lang/Exception"]).filter goodWord)
def wsX1_leftBy : List Cond := .code yX1_leftBy cX1_leftBy 8 (some .int) :: ([.fieldLink RX1 7 "TurnEstimatorModel" "arms" "I", .fieldLink RX1 20 "TurnEstimatorModel" "weights" "[I", .fieldLink RX1 39 "TurnEstimatorModel" "columnLeft" "[I", .fieldLink RX1 36 "TurnEstimatorModel" "rowLeft" "[I"] ++ wsX10 ++ (vx_atM "java/lang/ArrayIndexOutOfBoundsException" ["java/lang/IndexOutOfBoundsException", "java/lang/RuntimeException", "java/lang/Exception"]).filter goodWord)
def wsX1_layCell : List Cond := .code yX1_layCell cX1_layCell 6 none :: ([.fieldLink RX1 36 "TurnEstimatorModel" "rowLeft" "[I", .fieldLink RX1 39 "TurnEstimatorModel" "columnLeft" "[I", .fieldLink RX1 7 "TurnEstimatorModel" "arms" "I", .fieldLink RX1 20 "TurnEstimatorModel" "weights" "[I", .fieldLink RX1 33 "TurnEstimatorModel" "table" "[I", .methodLink RX1 133 yX1_leftBy, .instanceMethod yX1_leftBy, .selects RX1 yX1_leftBy yX1_leftBy, .initialized RX1, .code yX1_leftBy cX1_leftBy 8 (some .int)] ++ wsX10 ++ (vx_atM "java/lang/ArrayIndexOutOfBoundsException" ["java/lang/IndexOutOfBoundsException", "java/lang/RuntimeException", "java/lang/Exception"]).filter goodWord)
def wsX1_layTable : List Cond := .code yX1_layTable cX1_layTable 3 none :: ([.fieldLink RX1 7 "TurnEstimatorModel" "arms" "I", .fieldLink RX1 36 "TurnEstimatorModel" "rowLeft" "[I", .fieldLink RX1 13 "TurnEstimatorModel" "inflow" "[I", .fieldLink RX1 39 "TurnEstimatorModel" "columnLeft" "[I", .fieldLink RX1 17 "TurnEstimatorModel" "outflow" "[I", .methodLink RX1 136 yX1_layCell, .instanceMethod yX1_layCell, .selects RX1 yX1_layCell yX1_layCell, .initialized RX1, .code yX1_layCell cX1_layCell 6 none, .fieldLink RX1 20 "TurnEstimatorModel" "weights" "[I", .fieldLink RX1 33 "TurnEstimatorModel" "table" "[I", .methodLink RX1 133 yX1_leftBy, .instanceMethod yX1_leftBy, .selects RX1 yX1_leftBy yX1_leftBy, .code yX1_leftBy cX1_leftBy 8 (some .int)] ++ wsX10 ++ (vx_atM "java/lang/ArrayIndexOutOfBoundsException" ["java/lang/IndexOutOfBoundsException", "java/lang/RuntimeException", "java/lang/Exception"]).filter goodWord)
def wsX1_possibleNow_r1 : List Cond := [Cond.fieldLink RX1 33 "TurnEstimatorModel" "table" "[I", Cond.methodLink RX1 80 yX1_arePossible, Cond.instanceMethod yX1_arePossible, Cond.selects RX1 yX1_arePossible yX1_arePossible, Cond.initialized RX1, Cond.code yX1_arePossible cX1_arePossible 1 (some .boolean), Cond.methodLink RX1 69 yX1_difference, Cond.instanceMethod yX1_difference, Cond.selects RX1 yX1_difference yX1_difference, Cond.code yX1_difference cX1_difference 3 (some .int), Cond.fieldLink RX1 7 "TurnEstimatorModel" "arms" "I", Cond.fieldLink RX1 13 "TurnEstimatorModel" "inflow" "[I", Cond.fieldLink RX1 17 "TurnEstimatorModel" "outflow" "[I", Cond.methodLink RX1 77 yX1_crowded, Cond.instanceMethod yX1_crowded, Cond.selects RX1 yX1_crowded yX1_crowded, Cond.code yX1_crowded cX1_crowded 2 (some .int), Cond.methodLink RX1 73 yX1_excessOf, Cond.instanceMethod yX1_excessOf, Cond.selects RX1 yX1_excessOf yX1_excessOf, Cond.code yX1_excessOf cX1_excessOf 6 (some .int), Cond.fieldLink RX1 20 "TurnEstimatorModel" "weights" "[I", Cond.methodLink RX1 140 yX1_layTable, Cond.instanceMethod yX1_layTable]
def wsX1_possibleNow_r2 : List Cond := [Cond.selects RX1 yX1_layTable yX1_layTable, Cond.code yX1_layTable cX1_layTable 3 none, Cond.fieldLink RX1 36 "TurnEstimatorModel" "rowLeft" "[I", Cond.fieldLink RX1 39 "TurnEstimatorModel" "columnLeft" "[I", Cond.methodLink RX1 136 yX1_layCell, Cond.instanceMethod yX1_layCell, Cond.selects RX1 yX1_layCell yX1_layCell, Cond.code yX1_layCell cX1_layCell 6 none, Cond.methodLink RX1 133 yX1_leftBy, Cond.instanceMethod yX1_leftBy, Cond.selects RX1 yX1_leftBy yX1_leftBy, Cond.code yX1_leftBy cX1_leftBy 8 (some .int)]
def wsX1_possibleNow : List Cond := .code yX1_possibleNow cX1_possibleNow 3 (some .int) :: ((wsX1_possibleNow_r1 ++ wsX1_possibleNow_r2) ++ wsX10 ++ (vx_atM "java/lang/ArrayIndexOutOfBoundsException" ["java/lang/IndexOutOfBoundsException", "java/lang/RuntimeException", "java/lang/Exception"]).filter goodWord)
def wsX1_possible_r1 : List Cond := [Cond.fieldLink RX1 45 "TurnEstimatorModel" "thrown" "I", Cond.methodLink RX1 112 yX1_areArms, Cond.instanceMethod yX1_areArms, Cond.selects RX1 yX1_areArms yX1_areArms, Cond.initialized RX1, Cond.code yX1_areArms cX1_areArms 3 (some .boolean), Cond.methodLink RX1 58 yX1_isArm, Cond.instanceMethod yX1_isArm, Cond.selects RX1 yX1_isArm yX1_isArm, Cond.code yX1_isArm cX1_isArm 2 (some .boolean), Cond.fieldLink RX1 7 "TurnEstimatorModel" "arms" "I", Cond.methodLink RX1 48 yX1_within, Cond.static yX1_within, Cond.code yX1_within cX1_within 3 (some .boolean), Cond.methodLink RX1 143 yX1_possibleNow, Cond.instanceMethod yX1_possibleNow, Cond.selects RX1 yX1_possibleNow yX1_possibleNow, Cond.code yX1_possibleNow cX1_possibleNow 3 (some .int), Cond.fieldLink RX1 33 "TurnEstimatorModel" "table" "[I", Cond.methodLink RX1 80 yX1_arePossible, Cond.instanceMethod yX1_arePossible, Cond.selects RX1 yX1_arePossible yX1_arePossible, Cond.code yX1_arePossible cX1_arePossible 1 (some .boolean), Cond.methodLink RX1 69 yX1_difference]
def wsX1_possible_r2 : List Cond := [Cond.instanceMethod yX1_difference, Cond.selects RX1 yX1_difference yX1_difference, Cond.code yX1_difference cX1_difference 3 (some .int), Cond.fieldLink RX1 13 "TurnEstimatorModel" "inflow" "[I", Cond.fieldLink RX1 17 "TurnEstimatorModel" "outflow" "[I", Cond.methodLink RX1 77 yX1_crowded, Cond.instanceMethod yX1_crowded, Cond.selects RX1 yX1_crowded yX1_crowded, Cond.code yX1_crowded cX1_crowded 2 (some .int), Cond.methodLink RX1 73 yX1_excessOf, Cond.instanceMethod yX1_excessOf, Cond.selects RX1 yX1_excessOf yX1_excessOf, Cond.code yX1_excessOf cX1_excessOf 6 (some .int), Cond.fieldLink RX1 20 "TurnEstimatorModel" "weights" "[I", Cond.methodLink RX1 140 yX1_layTable, Cond.instanceMethod yX1_layTable, Cond.selects RX1 yX1_layTable yX1_layTable, Cond.code yX1_layTable cX1_layTable 3 none, Cond.fieldLink RX1 36 "TurnEstimatorModel" "rowLeft" "[I", Cond.fieldLink RX1 39 "TurnEstimatorModel" "columnLeft" "[I", Cond.methodLink RX1 136 yX1_layCell, Cond.instanceMethod yX1_layCell, Cond.selects RX1 yX1_layCell yX1_layCell, Cond.code yX1_layCell cX1_layCell 6 none]
def wsX1_possible_r3 : List Cond := [Cond.methodLink RX1 133 yX1_leftBy, Cond.instanceMethod yX1_leftBy, Cond.selects RX1 yX1_leftBy yX1_leftBy, Cond.code yX1_leftBy cX1_leftBy 8 (some .int)]
def wsX1_possible : List Cond := .code yX1_possible cX1_possible 3 (some .int) :: ((wsX1_possible_r1 ++ (wsX1_possible_r2 ++ wsX1_possible_r3)) ++ wsX10 ++ (vx_atM "java/lang/ArrayIndexOutOfBoundsException" ["java/lang/IndexOutOfBoundsException", "java/lang/RuntimeException", "java/lang/Exception"]).filter goodWord)
def wsX1_mix : List Cond := .code yX1_mix cX1_mix 3 none :: ([.constantLong RX1 146 (31), .fieldLink RX1 148 "TurnEstimatorModel" "h" "J"] ++ wsX10)
def wsX1_mixTurns_r1 : List Cond := [Cond.fieldLink RX1 7 "TurnEstimatorModel" "arms" "I", Cond.fieldLink RX1 20 "TurnEstimatorModel" "weights" "[I", Cond.fieldLink RX1 23 "TurnEstimatorModel" "estimates" "[D", Cond.constantDouble RX1 110 (4652007308841189376), Cond.fieldLink RX1 27 "TurnEstimatorModel" "whole" "[I", Cond.fieldLink RX1 33 "TurnEstimatorModel" "table" "[I", Cond.constantLong RX1 156 (-1), Cond.methodLink RX1 127 yX1_layWhole, Cond.instanceMethod yX1_layWhole, Cond.selects RX1 yX1_layWhole yX1_layWhole, Cond.initialized RX1, Cond.code yX1_layWhole cX1_layWhole 2 none, Cond.methodLink RX1 124 yX1_roundRow, Cond.instanceMethod yX1_roundRow, Cond.selects RX1 yX1_roundRow yX1_roundRow, Cond.code yX1_roundRow cX1_roundRow 8 none, Cond.fieldLink RX1 13 "TurnEstimatorModel" "inflow" "[I", Cond.fieldLink RX1 30 "TurnEstimatorModel" "fraction" "[D", Cond.constantDouble RX1 122 (13830554455654793216), Cond.methodLink RX1 84 yX1_rowSum, Cond.instanceMethod yX1_rowSum, Cond.selects RX1 yX1_rowSum yX1_rowSum, Cond.code yX1_rowSum cX1_rowSum 5 (some .double), Cond.methodLink RX1 119 yX1_nextOf]
def wsX1_mixTurns_r2 : List Cond := [Cond.instanceMethod yX1_nextOf, Cond.selects RX1 yX1_nextOf yX1_nextOf, Cond.code yX1_nextOf cX1_nextOf 5 (some .int), Cond.methodLink RX1 80 yX1_arePossible, Cond.instanceMethod yX1_arePossible, Cond.selects RX1 yX1_arePossible yX1_arePossible, Cond.code yX1_arePossible cX1_arePossible 1 (some .boolean), Cond.methodLink RX1 69 yX1_difference, Cond.instanceMethod yX1_difference, Cond.selects RX1 yX1_difference yX1_difference, Cond.code yX1_difference cX1_difference 3 (some .int), Cond.fieldLink RX1 17 "TurnEstimatorModel" "outflow" "[I", Cond.methodLink RX1 77 yX1_crowded, Cond.instanceMethod yX1_crowded, Cond.selects RX1 yX1_crowded yX1_crowded, Cond.code yX1_crowded cX1_crowded 2 (some .int), Cond.methodLink RX1 73 yX1_excessOf, Cond.instanceMethod yX1_excessOf, Cond.selects RX1 yX1_excessOf yX1_excessOf, Cond.code yX1_excessOf cX1_excessOf 6 (some .int), Cond.methodLink RX1 140 yX1_layTable, Cond.instanceMethod yX1_layTable, Cond.selects RX1 yX1_layTable yX1_layTable, Cond.code yX1_layTable cX1_layTable 3 none]
def wsX1_mixTurns_r3 : List Cond := [Cond.fieldLink RX1 36 "TurnEstimatorModel" "rowLeft" "[I", Cond.fieldLink RX1 39 "TurnEstimatorModel" "columnLeft" "[I", Cond.methodLink RX1 136 yX1_layCell, Cond.instanceMethod yX1_layCell, Cond.selects RX1 yX1_layCell yX1_layCell, Cond.code yX1_layCell cX1_layCell 6 none, Cond.methodLink RX1 133 yX1_leftBy, Cond.instanceMethod yX1_leftBy, Cond.selects RX1 yX1_leftBy yX1_leftBy, Cond.code yX1_leftBy cX1_leftBy 8 (some .int), Cond.methodLink RX1 152 yX1_mix, Cond.instanceMethod yX1_mix, Cond.selects RX1 yX1_mix yX1_mix, Cond.code yX1_mix cX1_mix 3 none, Cond.constantLong RX1 146 (31), Cond.fieldLink RX1 148 "TurnEstimatorModel" "h" "J"]
def wsX1_mixTurns : List Cond := .code yX1_mixTurns cX1_mixTurns 4 none :: ((wsX1_mixTurns_r1 ++ (wsX1_mixTurns_r2 ++ wsX1_mixTurns_r3)) ++ wsX10 ++ (vx_atM "java/lang/ArrayIndexOutOfBoundsException" ["java/lang/IndexOutOfBoundsException", "java/lang/RuntimeException", "java/lang/Exception"]).filter goodWord)
def wsX1_digest_r1 : List Cond := [Cond.fieldLink RX1 45 "TurnEstimatorModel" "thrown" "I", Cond.constantLong RX1 158 (1873), Cond.fieldLink RX1 148 "TurnEstimatorModel" "h" "J", Cond.fieldLink RX1 7 "TurnEstimatorModel" "arms" "I", Cond.fieldLink RX1 13 "TurnEstimatorModel" "inflow" "[I", Cond.fieldLink RX1 17 "TurnEstimatorModel" "outflow" "[I", Cond.fieldLink RX1 52 "TurnEstimatorModel" "roundsDone" "I", Cond.constantDouble RX1 110 (4652007308841189376), Cond.methodLink RX1 152 yX1_mix, Cond.instanceMethod yX1_mix, Cond.selects RX1 yX1_mix yX1_mix, Cond.initialized RX1, Cond.code yX1_mix cX1_mix 3 none, Cond.constantLong RX1 146 (31), Cond.methodLink RX1 160 yX1_mixTurns, Cond.instanceMethod yX1_mixTurns, Cond.selects RX1 yX1_mixTurns yX1_mixTurns, Cond.code yX1_mixTurns cX1_mixTurns 4 none, Cond.fieldLink RX1 20 "TurnEstimatorModel" "weights" "[I", Cond.fieldLink RX1 23 "TurnEstimatorModel" "estimates" "[D", Cond.fieldLink RX1 27 "TurnEstimatorModel" "whole" "[I", Cond.fieldLink RX1 33 "TurnEstimatorModel" "table" "[I", Cond.constantLong RX1 156 (-1), Cond.methodLink RX1 127 yX1_layWhole]
def wsX1_digest_r2 : List Cond := [Cond.instanceMethod yX1_layWhole, Cond.selects RX1 yX1_layWhole yX1_layWhole, Cond.code yX1_layWhole cX1_layWhole 2 none, Cond.methodLink RX1 124 yX1_roundRow, Cond.instanceMethod yX1_roundRow, Cond.selects RX1 yX1_roundRow yX1_roundRow, Cond.code yX1_roundRow cX1_roundRow 8 none, Cond.fieldLink RX1 30 "TurnEstimatorModel" "fraction" "[D", Cond.constantDouble RX1 122 (13830554455654793216), Cond.methodLink RX1 84 yX1_rowSum, Cond.instanceMethod yX1_rowSum, Cond.selects RX1 yX1_rowSum yX1_rowSum, Cond.code yX1_rowSum cX1_rowSum 5 (some .double), Cond.methodLink RX1 119 yX1_nextOf, Cond.instanceMethod yX1_nextOf, Cond.selects RX1 yX1_nextOf yX1_nextOf, Cond.code yX1_nextOf cX1_nextOf 5 (some .int), Cond.methodLink RX1 80 yX1_arePossible, Cond.instanceMethod yX1_arePossible, Cond.selects RX1 yX1_arePossible yX1_arePossible, Cond.code yX1_arePossible cX1_arePossible 1 (some .boolean), Cond.methodLink RX1 69 yX1_difference, Cond.instanceMethod yX1_difference, Cond.selects RX1 yX1_difference yX1_difference]
def wsX1_digest_r3 : List Cond := [Cond.code yX1_difference cX1_difference 3 (some .int), Cond.methodLink RX1 77 yX1_crowded, Cond.instanceMethod yX1_crowded, Cond.selects RX1 yX1_crowded yX1_crowded, Cond.code yX1_crowded cX1_crowded 2 (some .int), Cond.methodLink RX1 73 yX1_excessOf, Cond.instanceMethod yX1_excessOf, Cond.selects RX1 yX1_excessOf yX1_excessOf, Cond.code yX1_excessOf cX1_excessOf 6 (some .int), Cond.methodLink RX1 140 yX1_layTable, Cond.instanceMethod yX1_layTable, Cond.selects RX1 yX1_layTable yX1_layTable, Cond.code yX1_layTable cX1_layTable 3 none, Cond.fieldLink RX1 36 "TurnEstimatorModel" "rowLeft" "[I", Cond.fieldLink RX1 39 "TurnEstimatorModel" "columnLeft" "[I", Cond.methodLink RX1 136 yX1_layCell, Cond.instanceMethod yX1_layCell, Cond.selects RX1 yX1_layCell yX1_layCell, Cond.code yX1_layCell cX1_layCell 6 none, Cond.methodLink RX1 133 yX1_leftBy, Cond.instanceMethod yX1_leftBy, Cond.selects RX1 yX1_leftBy yX1_leftBy, Cond.code yX1_leftBy cX1_leftBy 8 (some .int), Cond.methodLink RX1 106 yX1_misfitNow]
def wsX1_digest_r4 : List Cond := [Cond.instanceMethod yX1_misfitNow, Cond.selects RX1 yX1_misfitNow yX1_misfitNow, Cond.code yX1_misfitNow cX1_misfitNow 8 (some .double), Cond.methodLink RX1 98 yX1_far, Cond.static yX1_far, Cond.code yX1_far cX1_far 4 (some .double), Cond.methodLink RX1 88 yX1_columnSum, Cond.instanceMethod yX1_columnSum, Cond.selects RX1 yX1_columnSum yX1_columnSum, Cond.code yX1_columnSum cX1_columnSum 5 (some .double), Cond.methodLink RX1 116 yX1_busiest, Cond.instanceMethod yX1_busiest, Cond.selects RX1 yX1_busiest yX1_busiest, Cond.code yX1_busiest cX1_busiest 8 (some .int), Cond.methodLink RX1 130 yX1_wholeMisfit, Cond.instanceMethod yX1_wholeMisfit, Cond.selects RX1 yX1_wholeMisfit yX1_wholeMisfit, Cond.code yX1_wholeMisfit cX1_wholeMisfit 5 (some .int)]
def wsX1_digest : List Cond := .code yX1_digest cX1_digest 2 (some .long) :: ((wsX1_digest_r1 ++ (wsX1_digest_r2 ++ (wsX1_digest_r3 ++ wsX1_digest_r4))) ++ wsX10 ++ (vx_atM "java/lang/ArrayIndexOutOfBoundsException" ["java/lang/IndexOutOfBoundsException", "java/lang/RuntimeException", "java/lang/Exception"]).filter goodWord)
def wsJx00060_init_a7421 : List Cond := .code yJx00060_init_a7421 cJx00060_init_a7421 2 none :: ([])
def wsJ9_abs_0f7a4 : List Cond := .code yJ9_abs_0f7a4 cJ9_abs_0f7a4 1 (some .int) :: ([])
def wsJ9_min_7cf53 : List Cond := .code yJ9_min_7cf53 cJ9_min_7cf53 2 (some .int) :: ([])
def wsL_setArms_r1 : List Cond := [Cond.classLink RL 13 "java/lang/IllegalArgumentException", Cond.methodLink RL 7 yX0_setArms, Cond.instanceMethod yX0_setArms, Cond.selects RX0 yX0_setArms yX0_setArms, Cond.initialized RX0, Cond.code yX0_setArms cX0_setArms 3 (some .int), Cond.fieldLink RX0 46 "TurnEstimator" "armCount" "I", Cond.methodLink RX0 42 yX0_requireWithin, Cond.static yX0_requireWithin, Cond.code yX0_requireWithin cX0_requireWithin 3 none, Cond.classLink RX0 157 "java/lang/IllegalArgumentException", Cond.initialized "java/lang/IllegalArgumentException", Cond.methodLink RX0 38 yX0_beginJunction, Cond.instanceMethod yX0_beginJunction, Cond.selects RX0 yX0_beginJunction yX0_beginJunction, Cond.code yX0_beginJunction cX0_beginJunction 4 none, Cond.fieldLink RX0 9 "TurnEstimator" "inflows" "[I", Cond.fieldLink RX0 13 "TurnEstimator" "outflows" "[I", Cond.fieldLink RX0 23 "TurnEstimator" "targets" "[I", Cond.methodLink RX0 61 yX0_putWeight, Cond.instanceMethod yX0_putWeight, Cond.selects RX0 yX0_putWeight yX0_putWeight, Cond.code yX0_putWeight cX0_putWeight 4 none, Cond.fieldLink RX0 16 "TurnEstimator" "weights" "[I"]
def wsL_setArms_r2 : List Cond := [Cond.methodLink RX0 57 yX0_turn, Cond.static yX0_turn, Cond.code yX0_turn cX0_turn 2 (some .int), Cond.methodLink RX0 64 yX0_resetEstimate, Cond.instanceMethod yX0_resetEstimate, Cond.selects RX0 yX0_resetEstimate yX0_resetEstimate, Cond.code yX0_resetEstimate cX0_resetEstimate 3 none, Cond.fieldLink RX0 19 "TurnEstimator" "estimates" "[D", Cond.fieldLink RX0 95 "TurnEstimator" "roundCount" "I"]
def wsL_setArms : List Cond := .codeWith yL_setArms cL_setArms 4 (some .int) [(0, 9, 12, 13)] :: ((wsL_setArms_r1 ++ wsL_setArms_r2) ++ wsX00 ++ (vx_atM "java/lang/ArrayIndexOutOfBoundsException" ["java/lang/IndexOutOfBoundsException", "java/lang/RuntimeException", "java/lang/Exception"]).filter goodWord ++ (vx_atS RX0 161 "java/lang/IllegalArgumentException" ["java/lang/RuntimeException", "java/lang/Exception"]).filter goodWord)
def wsL_setInflow_r1 : List Cond := [Cond.classLink RL 19 "java/lang/IndexOutOfBoundsException", Cond.classLink RL 13 "java/lang/IllegalArgumentException", Cond.methodLink RL 15 yX0_setInflow, Cond.instanceMethod yX0_setInflow, Cond.selects RX0 yX0_setInflow yX0_setInflow, Cond.initialized RX0, Cond.code yX0_setInflow cX0_setInflow 3 (some .int), Cond.fieldLink RX0 9 "TurnEstimator" "inflows" "[I", Cond.methodLink RX0 50 yX0_setCount, Cond.instanceMethod yX0_setCount, Cond.selects RX0 yX0_setCount yX0_setCount, Cond.code yX0_setCount cX0_setCount 5 (some .int), Cond.methodLink RX0 54 yX0_requireArm, Cond.instanceMethod yX0_requireArm, Cond.selects RX0 yX0_requireArm yX0_requireArm, Cond.code yX0_requireArm cX0_requireArm 2 none, Cond.classLink RX0 152 "java/lang/IndexOutOfBoundsException", Cond.initialized "java/lang/IndexOutOfBoundsException", Cond.fieldLink RX0 46 "TurnEstimator" "armCount" "I", Cond.methodLink RX0 42 yX0_requireWithin, Cond.static yX0_requireWithin, Cond.code yX0_requireWithin cX0_requireWithin 3 none, Cond.classLink RX0 157 "java/lang/IllegalArgumentException", Cond.initialized "java/lang/IllegalArgumentException"]
def wsL_setInflow_r2 : List Cond := [Cond.methodLink RX0 64 yX0_resetEstimate, Cond.instanceMethod yX0_resetEstimate, Cond.selects RX0 yX0_resetEstimate yX0_resetEstimate, Cond.code yX0_resetEstimate cX0_resetEstimate 3 none, Cond.fieldLink RX0 19 "TurnEstimator" "estimates" "[D", Cond.fieldLink RX0 16 "TurnEstimator" "weights" "[I", Cond.fieldLink RX0 95 "TurnEstimator" "roundCount" "I", Cond.methodLink RX0 57 yX0_turn, Cond.static yX0_turn, Cond.code yX0_turn cX0_turn 2 (some .int)]
def wsL_setInflow : List Cond := .codeWith yL_setInflow cL_setInflow 5 (some .int) [(0, 10, 13, 19), (0, 10, 17, 13)] :: ((wsL_setInflow_r1 ++ wsL_setInflow_r2) ++ wsX00 ++ (vx_atM "java/lang/ArrayIndexOutOfBoundsException" ["java/lang/IndexOutOfBoundsException", "java/lang/RuntimeException", "java/lang/Exception"]).filter goodWord ++ (vx_atS RX0 156 "java/lang/IndexOutOfBoundsException" ["java/lang/RuntimeException", "java/lang/Exception"]).filter goodWord ++ (vx_atS RX0 161 "java/lang/IllegalArgumentException" ["java/lang/RuntimeException", "java/lang/Exception"]).filter goodWord)
def wsL_setOutflow_r1 : List Cond := [Cond.classLink RL 19 "java/lang/IndexOutOfBoundsException", Cond.classLink RL 13 "java/lang/IllegalArgumentException", Cond.methodLink RL 21 yX0_setOutflow, Cond.instanceMethod yX0_setOutflow, Cond.selects RX0 yX0_setOutflow yX0_setOutflow, Cond.initialized RX0, Cond.code yX0_setOutflow cX0_setOutflow 3 (some .int), Cond.fieldLink RX0 13 "TurnEstimator" "outflows" "[I", Cond.methodLink RX0 50 yX0_setCount, Cond.instanceMethod yX0_setCount, Cond.selects RX0 yX0_setCount yX0_setCount, Cond.code yX0_setCount cX0_setCount 5 (some .int), Cond.methodLink RX0 54 yX0_requireArm, Cond.instanceMethod yX0_requireArm, Cond.selects RX0 yX0_requireArm yX0_requireArm, Cond.code yX0_requireArm cX0_requireArm 2 none, Cond.classLink RX0 152 "java/lang/IndexOutOfBoundsException", Cond.initialized "java/lang/IndexOutOfBoundsException", Cond.fieldLink RX0 46 "TurnEstimator" "armCount" "I", Cond.methodLink RX0 42 yX0_requireWithin, Cond.static yX0_requireWithin, Cond.code yX0_requireWithin cX0_requireWithin 3 none, Cond.classLink RX0 157 "java/lang/IllegalArgumentException", Cond.initialized "java/lang/IllegalArgumentException"]
def wsL_setOutflow_r2 : List Cond := [Cond.methodLink RX0 64 yX0_resetEstimate, Cond.instanceMethod yX0_resetEstimate, Cond.selects RX0 yX0_resetEstimate yX0_resetEstimate, Cond.code yX0_resetEstimate cX0_resetEstimate 3 none, Cond.fieldLink RX0 19 "TurnEstimator" "estimates" "[D", Cond.fieldLink RX0 16 "TurnEstimator" "weights" "[I", Cond.fieldLink RX0 95 "TurnEstimator" "roundCount" "I", Cond.methodLink RX0 57 yX0_turn, Cond.static yX0_turn, Cond.code yX0_turn cX0_turn 2 (some .int)]
def wsL_setOutflow : List Cond := .codeWith yL_setOutflow cL_setOutflow 5 (some .int) [(0, 10, 13, 19), (0, 10, 17, 13)] :: ((wsL_setOutflow_r1 ++ wsL_setOutflow_r2) ++ wsX00 ++ (vx_atM "java/lang/ArrayIndexOutOfBoundsException" ["java/lang/IndexOutOfBoundsException", "java/lang/RuntimeException", "java/lang/Exception"]).filter goodWord ++ (vx_atS RX0 156 "java/lang/IndexOutOfBoundsException" ["java/lang/RuntimeException", "java/lang/Exception"]).filter goodWord ++ (vx_atS RX0 161 "java/lang/IllegalArgumentException" ["java/lang/RuntimeException", "java/lang/Exception"]).filter goodWord)
def wsL_setWeight_r1 : List Cond := [Cond.classLink RL 19 "java/lang/IndexOutOfBoundsException", Cond.classLink RL 13 "java/lang/IllegalArgumentException", Cond.methodLink RL 24 yX0_setWeight, Cond.instanceMethod yX0_setWeight, Cond.selects RX0 yX0_setWeight yX0_setWeight, Cond.initialized RX0, Cond.code yX0_setWeight cX0_setWeight 5 (some .int), Cond.fieldLink RX0 16 "TurnEstimator" "weights" "[I", Cond.methodLink RX0 54 yX0_requireArm, Cond.instanceMethod yX0_requireArm, Cond.selects RX0 yX0_requireArm yX0_requireArm, Cond.code yX0_requireArm cX0_requireArm 2 none, Cond.classLink RX0 152 "java/lang/IndexOutOfBoundsException", Cond.initialized "java/lang/IndexOutOfBoundsException", Cond.fieldLink RX0 46 "TurnEstimator" "armCount" "I", Cond.methodLink RX0 42 yX0_requireWithin, Cond.static yX0_requireWithin, Cond.code yX0_requireWithin cX0_requireWithin 3 none, Cond.classLink RX0 157 "java/lang/IllegalArgumentException", Cond.initialized "java/lang/IllegalArgumentException", Cond.methodLink RX0 57 yX0_turn, Cond.static yX0_turn, Cond.code yX0_turn cX0_turn 2 (some .int), Cond.methodLink RX0 61 yX0_putWeight]
def wsL_setWeight_r2 : List Cond := [Cond.instanceMethod yX0_putWeight, Cond.selects RX0 yX0_putWeight yX0_putWeight, Cond.code yX0_putWeight cX0_putWeight 4 none, Cond.fieldLink RX0 23 "TurnEstimator" "targets" "[I", Cond.methodLink RX0 64 yX0_resetEstimate, Cond.instanceMethod yX0_resetEstimate, Cond.selects RX0 yX0_resetEstimate yX0_resetEstimate, Cond.code yX0_resetEstimate cX0_resetEstimate 3 none, Cond.fieldLink RX0 19 "TurnEstimator" "estimates" "[D", Cond.fieldLink RX0 95 "TurnEstimator" "roundCount" "I"]
def wsL_setWeight : List Cond := .codeWith yL_setWeight cL_setWeight 6 (some .int) [(0, 12, 15, 19), (0, 12, 19, 13)] :: ((wsL_setWeight_r1 ++ wsL_setWeight_r2) ++ wsX00 ++ (vx_atM "java/lang/ArrayIndexOutOfBoundsException" ["java/lang/IndexOutOfBoundsException", "java/lang/RuntimeException", "java/lang/Exception"]).filter goodWord ++ (vx_atS RX0 156 "java/lang/IndexOutOfBoundsException" ["java/lang/RuntimeException", "java/lang/Exception"]).filter goodWord ++ (vx_atS RX0 161 "java/lang/IllegalArgumentException" ["java/lang/RuntimeException", "java/lang/Exception"]).filter goodWord)
def wsL_scale_r1 : List Cond := [Cond.classLink RL 13 "java/lang/IllegalArgumentException", Cond.classLink RL 31 "java/lang/IllegalStateException", Cond.methodLink RL 28 yX0_scale, Cond.instanceMethod yX0_scale, Cond.selects RX0 yX0_scale yX0_scale, Cond.initialized RX0, Cond.code yX0_scale cX0_scale 3 (some .int), Cond.fieldLink RX0 46 "TurnEstimator" "armCount" "I", Cond.fieldLink RX0 9 "TurnEstimator" "inflows" "[I", Cond.fieldLink RX0 13 "TurnEstimator" "outflows" "[I", Cond.methodLink RX0 42 yX0_requireWithin, Cond.static yX0_requireWithin, Cond.code yX0_requireWithin cX0_requireWithin 3 none, Cond.classLink RX0 157 "java/lang/IllegalArgumentException", Cond.initialized "java/lang/IllegalArgumentException", Cond.methodLink RX0 67 yX0_requireScalable, Cond.static yX0_requireScalable, Cond.code yX0_requireScalable cX0_requireScalable 2 none, Cond.classLink RX0 162 "java/lang/IllegalStateException", Cond.initialized "java/lang/IllegalStateException", Cond.methodLink RX0 71 yX0_scaled, Cond.static yX0_scaled, Cond.code yX0_scaled cX0_scaled 2 (some .int), Cond.methodLink RX0 64 yX0_resetEstimate]
def wsL_scale_r2 : List Cond := [Cond.instanceMethod yX0_resetEstimate, Cond.selects RX0 yX0_resetEstimate yX0_resetEstimate, Cond.code yX0_resetEstimate cX0_resetEstimate 3 none, Cond.fieldLink RX0 19 "TurnEstimator" "estimates" "[D", Cond.fieldLink RX0 16 "TurnEstimator" "weights" "[I", Cond.fieldLink RX0 95 "TurnEstimator" "roundCount" "I", Cond.methodLink RX0 57 yX0_turn, Cond.static yX0_turn, Cond.code yX0_turn cX0_turn 2 (some .int), Cond.methodLink RX0 74 yX0_total, Cond.instanceMethod yX0_total, Cond.selects RX0 yX0_total yX0_total, Cond.code yX0_total cX0_total 4 (some .int)]
def wsL_scale : List Cond := .codeWith yL_scale cL_scale 4 (some .int) [(0, 9, 12, 13), (0, 9, 15, 31)] :: ((wsL_scale_r1 ++ wsL_scale_r2) ++ wsX00 ++ (vx_atM "java/lang/ArrayIndexOutOfBoundsException" ["java/lang/IndexOutOfBoundsException", "java/lang/RuntimeException", "java/lang/Exception"]).filter goodWord ++ (vx_atS RX0 161 "java/lang/IllegalArgumentException" ["java/lang/RuntimeException", "java/lang/Exception"]).filter goodWord ++ (vx_atS RX0 166 "java/lang/IllegalStateException" ["java/lang/RuntimeException", "java/lang/Exception"]).filter goodWord)
def wsL_excess_r1 : List Cond := [Cond.classLink RL 13 "java/lang/IllegalArgumentException", Cond.methodLink RL 33 yX0_excess, Cond.instanceMethod yX0_excess, Cond.selects RX0 yX0_excess yX0_excess, Cond.initialized RX0, Cond.code yX0_excess cX0_excess 2 (some .int), Cond.fieldLink RX0 13 "TurnEstimator" "outflows" "[I", Cond.methodLink RX0 85 yX0_allArms, Cond.instanceMethod yX0_allArms, Cond.selects RX0 yX0_allArms yX0_allArms, Cond.code yX0_allArms cX0_allArms 1 (some .int), Cond.fieldLink RX0 46 "TurnEstimator" "armCount" "I", Cond.methodLink RX0 42 yX0_requireWithin, Cond.static yX0_requireWithin, Cond.code yX0_requireWithin cX0_requireWithin 3 none, Cond.classLink RX0 157 "java/lang/IllegalArgumentException", Cond.initialized "java/lang/IllegalArgumentException", Cond.methodLink RX0 88 yX0_excessOver, Cond.instanceMethod yX0_excessOver, Cond.selects RX0 yX0_excessOver yX0_excessOver, Cond.code yX0_excessOver cX0_excessOver 6 (some .int), Cond.fieldLink RX0 9 "TurnEstimator" "inflows" "[I", Cond.methodLink RX0 171 yX0_reachedFrom, Cond.instanceMethod yX0_reachedFrom]
def wsL_excess_r2 : List Cond := [Cond.selects RX0 yX0_reachedFrom yX0_reachedFrom, Cond.code yX0_reachedFrom cX0_reachedFrom 4 (some .int), Cond.fieldLink RX0 23 "TurnEstimator" "targets" "[I", Cond.methodLink RX0 167 yX0_contains, Cond.static yX0_contains, Cond.code yX0_contains cX0_contains 2 (some .boolean)]
def wsL_excess : List Cond := .codeWith yL_excess cL_excess 4 (some .int) [(0, 9, 12, 13)] :: ((wsL_excess_r1 ++ wsL_excess_r2) ++ wsX00 ++ (vx_atM "java/lang/ArrayIndexOutOfBoundsException" ["java/lang/IndexOutOfBoundsException", "java/lang/RuntimeException", "java/lang/Exception"]).filter goodWord ++ (vx_atS RX0 161 "java/lang/IllegalArgumentException" ["java/lang/RuntimeException", "java/lang/Exception"]).filter goodWord)
def wsL_iterate_r1 : List Cond := [Cond.classLink RL 13 "java/lang/IllegalArgumentException", Cond.methodLink RL 36 yX0_iterate, Cond.instanceMethod yX0_iterate, Cond.selects RX0 yX0_iterate yX0_iterate, Cond.initialized RX0, Cond.code yX0_iterate cX0_iterate 3 (some .int), Cond.fieldLink RX0 95 "TurnEstimator" "roundCount" "I", Cond.methodLink RX0 42 yX0_requireWithin, Cond.static yX0_requireWithin, Cond.code yX0_requireWithin cX0_requireWithin 3 none, Cond.classLink RX0 157 "java/lang/IllegalArgumentException", Cond.initialized "java/lang/IllegalArgumentException", Cond.methodLink RX0 92 yX0_carryOutRound, Cond.instanceMethod yX0_carryOutRound, Cond.selects RX0 yX0_carryOutRound yX0_carryOutRound, Cond.code yX0_carryOutRound cX0_carryOutRound 2 none, Cond.fieldLink RX0 46 "TurnEstimator" "armCount" "I", Cond.methodLink RX0 197 yX0_carryOutRowStep, Cond.instanceMethod yX0_carryOutRowStep, Cond.selects RX0 yX0_carryOutRowStep yX0_carryOutRowStep, Cond.code yX0_carryOutRowStep cX0_carryOutRowStep 7 none, Cond.fieldLink RX0 9 "TurnEstimator" "inflows" "[I", Cond.fieldLink RX0 19 "TurnEstimator" "estimates" "[D", Cond.methodLink RX0 109 yX0_rowSum]
def wsL_iterate_r2 : List Cond := [Cond.instanceMethod yX0_rowSum, Cond.selects RX0 yX0_rowSum yX0_rowSum, Cond.code yX0_rowSum cX0_rowSum 5 (some .double), Cond.methodLink RX0 57 yX0_turn, Cond.static yX0_turn, Cond.code yX0_turn cX0_turn 2 (some .int), Cond.methodLink RX0 200 yX0_carryOutColumnStep, Cond.instanceMethod yX0_carryOutColumnStep, Cond.selects RX0 yX0_carryOutColumnStep yX0_carryOutColumnStep, Cond.code yX0_carryOutColumnStep cX0_carryOutColumnStep 7 none, Cond.fieldLink RX0 13 "TurnEstimator" "outflows" "[I", Cond.methodLink RX0 105 yX0_columnSum, Cond.instanceMethod yX0_columnSum, Cond.selects RX0 yX0_columnSum yX0_columnSum, Cond.code yX0_columnSum cX0_columnSum 5 (some .double)]
def wsL_iterate : List Cond := .codeWith yL_iterate cL_iterate 4 (some .int) [(0, 9, 12, 13)] :: ((wsL_iterate_r1 ++ wsL_iterate_r2) ++ wsX00 ++ (vx_atM "java/lang/ArrayIndexOutOfBoundsException" ["java/lang/IndexOutOfBoundsException", "java/lang/RuntimeException", "java/lang/Exception"]).filter goodWord ++ (vx_atS RX0 161 "java/lang/IllegalArgumentException" ["java/lang/RuntimeException", "java/lang/Exception"]).filter goodWord)
def wsL_fit_r1 : List Cond := [Cond.classLink RL 13 "java/lang/IllegalArgumentException", Cond.methodLink RL 39 yX0_fit, Cond.instanceMethod yX0_fit, Cond.selects RX0 yX0_fit yX0_fit, Cond.initialized RX0, Cond.code yX0_fit cX0_fit 6 (some .int), Cond.constant RX0 98 (100000), Cond.constantDouble RX0 99 (4652007308841189376), Cond.methodLink RX0 42 yX0_requireWithin, Cond.static yX0_requireWithin, Cond.code yX0_requireWithin cX0_requireWithin 3 none, Cond.classLink RX0 157 "java/lang/IllegalArgumentException", Cond.initialized "java/lang/IllegalArgumentException", Cond.methodLink RX0 101 yX0_misfit, Cond.instanceMethod yX0_misfit, Cond.selects RX0 yX0_misfit yX0_misfit, Cond.code yX0_misfit cX0_misfit 8 (some .double), Cond.fieldLink RX0 46 "TurnEstimator" "armCount" "I", Cond.fieldLink RX0 9 "TurnEstimator" "inflows" "[I", Cond.fieldLink RX0 13 "TurnEstimator" "outflows" "[I", Cond.methodLink RX0 109 yX0_rowSum, Cond.instanceMethod yX0_rowSum, Cond.selects RX0 yX0_rowSum yX0_rowSum, Cond.code yX0_rowSum cX0_rowSum 5 (some .double)]
def wsL_fit_r2 : List Cond := [Cond.fieldLink RX0 19 "TurnEstimator" "estimates" "[D", Cond.methodLink RX0 57 yX0_turn, Cond.static yX0_turn, Cond.code yX0_turn cX0_turn 2 (some .int), Cond.methodLink RX0 112 yX0_distance, Cond.static yX0_distance, Cond.code yX0_distance cX0_distance 6 (some .double), Cond.methodLink RX0 105 yX0_columnSum, Cond.instanceMethod yX0_columnSum, Cond.selects RX0 yX0_columnSum yX0_columnSum, Cond.code yX0_columnSum cX0_columnSum 5 (some .double), Cond.methodLink RX0 92 yX0_carryOutRound, Cond.instanceMethod yX0_carryOutRound, Cond.selects RX0 yX0_carryOutRound yX0_carryOutRound, Cond.code yX0_carryOutRound cX0_carryOutRound 2 none, Cond.fieldLink RX0 95 "TurnEstimator" "roundCount" "I", Cond.methodLink RX0 197 yX0_carryOutRowStep, Cond.instanceMethod yX0_carryOutRowStep, Cond.selects RX0 yX0_carryOutRowStep yX0_carryOutRowStep, Cond.code yX0_carryOutRowStep cX0_carryOutRowStep 7 none, Cond.methodLink RX0 200 yX0_carryOutColumnStep, Cond.instanceMethod yX0_carryOutColumnStep, Cond.selects RX0 yX0_carryOutColumnStep yX0_carryOutColumnStep, Cond.code yX0_carryOutColumnStep cX0_carryOutColumnStep 7 none]
def wsL_fit : List Cond := .codeWith yL_fit cL_fit 5 (some .int) [(0, 10, 13, 13)] :: ((wsL_fit_r1 ++ wsL_fit_r2) ++ wsX00 ++ (vx_atM "java/lang/ArrayIndexOutOfBoundsException" ["java/lang/IndexOutOfBoundsException", "java/lang/RuntimeException", "java/lang/Exception"]).filter goodWord ++ (vx_atS RX0 161 "java/lang/IllegalArgumentException" ["java/lang/RuntimeException", "java/lang/Exception"]).filter goodWord)
def wsL_estimate : List Cond := .codeWith yL_estimate cL_estimate 5 (some .int) [(0, 9, 12, 19)] :: ([.classLink RL 19 "java/lang/IndexOutOfBoundsException", .methodLink RL 42 yX0_estimate, .instanceMethod yX0_estimate, .selects RX0 yX0_estimate yX0_estimate, .initialized RX0, .code yX0_estimate cX0_estimate 3 (some .double), .fieldLink RX0 19 "TurnEstimator" "estimates" "[D", .methodLink RX0 54 yX0_requireArm, .instanceMethod yX0_requireArm, .selects RX0 yX0_requireArm yX0_requireArm, .code yX0_requireArm cX0_requireArm 2 none, .classLink RX0 152 "java/lang/IndexOutOfBoundsException", .initialized "java/lang/IndexOutOfBoundsException", .fieldLink RX0 46 "TurnEstimator" "armCount" "I", .methodLink RX0 57 yX0_turn, .static yX0_turn, .code yX0_turn cX0_turn 2 (some .int)] ++ wsX00 ++ (vx_atM "java/lang/ArrayIndexOutOfBoundsException" ["java/lang/IndexOutOfBoundsException", "java/lang/RuntimeException", "java/lang/Exception"]).filter goodWord ++ (vx_atS RX0 156 "java/lang/IndexOutOfBoundsException" ["java/lang/RuntimeException", "java/lang/Exception"]).filter goodWord)
def wsL_sum_r1 : List Cond := [Cond.classLink RL 19 "java/lang/IndexOutOfBoundsException", Cond.methodLink RL 46 yX0_sum, Cond.instanceMethod yX0_sum, Cond.selects RX0 yX0_sum yX0_sum, Cond.initialized RX0, Cond.code yX0_sum cX0_sum 3 (some .double), Cond.methodLink RX0 54 yX0_requireArm, Cond.instanceMethod yX0_requireArm, Cond.selects RX0 yX0_requireArm yX0_requireArm, Cond.code yX0_requireArm cX0_requireArm 2 none, Cond.classLink RX0 152 "java/lang/IndexOutOfBoundsException", Cond.initialized "java/lang/IndexOutOfBoundsException", Cond.fieldLink RX0 46 "TurnEstimator" "armCount" "I", Cond.methodLink RX0 105 yX0_columnSum, Cond.instanceMethod yX0_columnSum, Cond.selects RX0 yX0_columnSum yX0_columnSum, Cond.code yX0_columnSum cX0_columnSum 5 (some .double), Cond.fieldLink RX0 19 "TurnEstimator" "estimates" "[D", Cond.methodLink RX0 57 yX0_turn, Cond.static yX0_turn, Cond.code yX0_turn cX0_turn 2 (some .int), Cond.methodLink RX0 109 yX0_rowSum, Cond.instanceMethod yX0_rowSum, Cond.selects RX0 yX0_rowSum yX0_rowSum]
def wsL_sum_r2 : List Cond := [Cond.code yX0_rowSum cX0_rowSum 5 (some .double)]
def wsL_sum : List Cond := .codeWith yL_sum cL_sum 5 (some .int) [(0, 9, 12, 19)] :: ((wsL_sum_r1 ++ wsL_sum_r2) ++ wsX00 ++ (vx_atM "java/lang/ArrayIndexOutOfBoundsException" ["java/lang/IndexOutOfBoundsException", "java/lang/RuntimeException", "java/lang/Exception"]).filter goodWord ++ (vx_atS RX0 156 "java/lang/IndexOutOfBoundsException" ["java/lang/RuntimeException", "java/lang/Exception"]).filter goodWord)
def wsL_share : List Cond := .codeWith yL_share cL_share 5 (some .int) [(0, 9, 12, 19)] :: ([.classLink RL 19 "java/lang/IndexOutOfBoundsException", .methodLink RL 50 yX0_share, .instanceMethod yX0_share, .selects RX0 yX0_share yX0_share, .initialized RX0, .code yX0_share cX0_share 5 (some .double), .fieldLink RX0 19 "TurnEstimator" "estimates" "[D", .methodLink RX0 54 yX0_requireArm, .instanceMethod yX0_requireArm, .selects RX0 yX0_requireArm yX0_requireArm, .code yX0_requireArm cX0_requireArm 2 none, .classLink RX0 152 "java/lang/IndexOutOfBoundsException", .initialized "java/lang/IndexOutOfBoundsException", .fieldLink RX0 46 "TurnEstimator" "armCount" "I", .methodLink RX0 109 yX0_rowSum, .instanceMethod yX0_rowSum, .selects RX0 yX0_rowSum yX0_rowSum, .code yX0_rowSum cX0_rowSum 5 (some .double), .methodLink RX0 57 yX0_turn, .static yX0_turn, .code yX0_turn cX0_turn 2 (some .int)] ++ wsX00 ++ (vx_atM "java/lang/ArrayIndexOutOfBoundsException" ["java/lang/IndexOutOfBoundsException", "java/lang/RuntimeException", "java/lang/Exception"]).filter goodWord ++ (vx_atS RX0 156 "java/lang/IndexOutOfBoundsException" ["java/lang/RuntimeException", "java/lang/Exception"]).filter goodWord)
def wsL_crossRatio : List Cond := .codeWith yL_crossRatio cL_crossRatio 7 (some .int) [(0, 13, 16, 19), (0, 13, 20, 57)] :: ([.classLink RL 19 "java/lang/IndexOutOfBoundsException", .classLink RL 57 "java/lang/ArithmeticException", .methodLink RL 53 yX0_crossRatio, .instanceMethod yX0_crossRatio, .selects RX0 yX0_crossRatio yX0_crossRatio, .initialized RX0, .code yX0_crossRatio cX0_crossRatio 9 (some .double), .classLink RX0 116 "java/lang/ArithmeticException", .initialized "java/lang/ArithmeticException", .fieldLink RX0 19 "TurnEstimator" "estimates" "[D", .methodLink RX0 54 yX0_requireArm, .instanceMethod yX0_requireArm, .selects RX0 yX0_requireArm yX0_requireArm, .code yX0_requireArm cX0_requireArm 2 none, .classLink RX0 152 "java/lang/IndexOutOfBoundsException", .initialized "java/lang/IndexOutOfBoundsException", .fieldLink RX0 46 "TurnEstimator" "armCount" "I", .methodLink RX0 57 yX0_turn, .static yX0_turn, .code yX0_turn cX0_turn 2 (some .int)] ++ wsX00 ++ (vx_atM "java/lang/ArrayIndexOutOfBoundsException" ["java/lang/IndexOutOfBoundsException", "java/lang/RuntimeException", "java/lang/Exception"]).filter goodWord ++ (vx_atS RX0 120 "java/lang/ArithmeticException" ["java/lang/RuntimeException", "java/lang/Exception"]).filter goodWord ++ (vx_atS RX0 156 "java/lang/IndexOutOfBoundsException" ["java/lang/RuntimeException", "java/lang/Exception"]).filter goodWord)
def wsL_rounded_r1 : List Cond := [Cond.classLink RL 19 "java/lang/IndexOutOfBoundsException", Cond.methodLink RL 59 yX0_rounded, Cond.instanceMethod yX0_rounded, Cond.selects RX0 yX0_rounded yX0_rounded, Cond.initialized RX0, Cond.code yX0_rounded cX0_rounded 3 (some .int), Cond.fieldLink RX0 26 "TurnEstimator" "roundedTable" "[I", Cond.methodLink RX0 54 yX0_requireArm, Cond.instanceMethod yX0_requireArm, Cond.selects RX0 yX0_requireArm yX0_requireArm, Cond.code yX0_requireArm cX0_requireArm 2 none, Cond.classLink RX0 152 "java/lang/IndexOutOfBoundsException", Cond.initialized "java/lang/IndexOutOfBoundsException", Cond.fieldLink RX0 46 "TurnEstimator" "armCount" "I", Cond.methodLink RX0 123 yX0_roundRow, Cond.instanceMethod yX0_roundRow, Cond.selects RX0 yX0_roundRow yX0_roundRow, Cond.code yX0_roundRow cX0_roundRow 9 none, Cond.fieldLink RX0 19 "TurnEstimator" "estimates" "[D", Cond.fieldLink RX0 9 "TurnEstimator" "inflows" "[I", Cond.fieldLink RX0 35 "TurnEstimator" "fractions" "[D", Cond.methodLink RX0 109 yX0_rowSum, Cond.instanceMethod yX0_rowSum, Cond.selects RX0 yX0_rowSum yX0_rowSum]
def wsL_rounded_r2 : List Cond := [Cond.code yX0_rowSum cX0_rowSum 5 (some .double), Cond.methodLink RX0 57 yX0_turn, Cond.static yX0_turn, Cond.code yX0_turn cX0_turn 2 (some .int), Cond.methodLink RX0 203 yX0_raiseGreatestFractions, Cond.instanceMethod yX0_raiseGreatestFractions, Cond.selects RX0 yX0_raiseGreatestFractions yX0_raiseGreatestFractions, Cond.code yX0_raiseGreatestFractions cX0_raiseGreatestFractions 6 none, Cond.methodLink RX0 192 Lib.Math.min.name, Cond.static Lib.Math.min.name, Cond.initialized "java/lang/Math", Cond.code Lib.Math.min.name Lib.Math.min.code 2 (some .int), Cond.constantDouble RX0 209 (13830554455654793216), Cond.methodLink RX0 206 yX0_greatestFraction, Cond.instanceMethod yX0_greatestFraction, Cond.selects RX0 yX0_greatestFraction yX0_greatestFraction, Cond.code yX0_greatestFraction cX0_greatestFraction 6 (some .int), Cond.methodLink RX0 189 yX0_isOpen, Cond.instanceMethod yX0_isOpen, Cond.selects RX0 yX0_isOpen yX0_isOpen, Cond.code yX0_isOpen cX0_isOpen 3 (some .boolean), Cond.fieldLink RX0 23 "TurnEstimator" "targets" "[I", Cond.methodLink RX0 167 yX0_contains, Cond.static yX0_contains]
def wsL_rounded_r3 : List Cond := [Cond.code yX0_contains cX0_contains 2 (some .boolean)]
def wsL_rounded : List Cond := .codeWith yL_rounded cL_rounded 5 (some .int) [(0, 10, 13, 19)] :: ((wsL_rounded_r1 ++ (wsL_rounded_r2 ++ wsL_rounded_r3)) ++ wsX00 ++ (vx_atM "java/lang/ArrayIndexOutOfBoundsException" ["java/lang/IndexOutOfBoundsException", "java/lang/RuntimeException", "java/lang/Exception"]).filter goodWord ++ (vx_atS RX0 156 "java/lang/IndexOutOfBoundsException" ["java/lang/RuntimeException", "java/lang/Exception"]).filter goodWord)
def wsL_possible_r1 : List Cond := [Cond.classLink RL 19 "java/lang/IndexOutOfBoundsException", Cond.methodLink RL 62 yX0_possible, Cond.instanceMethod yX0_possible, Cond.selects RX0 yX0_possible yX0_possible, Cond.initialized RX0, Cond.code yX0_possible cX0_possible 3 (some .int), Cond.fieldLink RX0 29 "TurnEstimator" "possibleTable" "[I", Cond.methodLink RX0 54 yX0_requireArm, Cond.instanceMethod yX0_requireArm, Cond.selects RX0 yX0_requireArm yX0_requireArm, Cond.code yX0_requireArm cX0_requireArm 2 none, Cond.classLink RX0 152 "java/lang/IndexOutOfBoundsException", Cond.initialized "java/lang/IndexOutOfBoundsException", Cond.fieldLink RX0 46 "TurnEstimator" "armCount" "I", Cond.methodLink RX0 132 yX0_fillPossibleTable, Cond.instanceMethod yX0_fillPossibleTable, Cond.selects RX0 yX0_fillPossibleTable yX0_fillPossibleTable, Cond.code yX0_fillPossibleTable cX0_fillPossibleTable 6 none, Cond.fieldLink RX0 13 "TurnEstimator" "outflows" "[I", Cond.fieldLink RX0 32 "TurnEstimator" "outflowsLeft" "[I", Cond.methodLink RX0 179 arraycopyName, Cond.native arraycopyName, Cond.static arraycopyName, Cond.initialized "java/lang/System"]
def wsL_possible_r2 : List Cond := [Cond.fieldLink RX0 9 "TurnEstimator" "inflows" "[I", Cond.methodLink RX0 175 yX0_isPossible, Cond.instanceMethod yX0_isPossible, Cond.selects RX0 yX0_isPossible yX0_isPossible, Cond.code yX0_isPossible cX0_isPossible 1 (some .boolean), Cond.methodLink RX0 78 yX0_imbalance, Cond.instanceMethod yX0_imbalance, Cond.selects RX0 yX0_imbalance yX0_imbalance, Cond.code yX0_imbalance cX0_imbalance 1 (some .int), Cond.methodLink RX0 74 yX0_total, Cond.instanceMethod yX0_total, Cond.selects RX0 yX0_total yX0_total, Cond.code yX0_total cX0_total 4 (some .int), Cond.methodLink RX0 82 yX0_crowdedSet, Cond.instanceMethod yX0_crowdedSet, Cond.selects RX0 yX0_crowdedSet yX0_crowdedSet, Cond.code yX0_crowdedSet cX0_crowdedSet 2 (some .int), Cond.methodLink RX0 85 yX0_allArms, Cond.instanceMethod yX0_allArms, Cond.selects RX0 yX0_allArms yX0_allArms, Cond.code yX0_allArms cX0_allArms 1 (some .int), Cond.methodLink RX0 88 yX0_excessOver, Cond.instanceMethod yX0_excessOver, Cond.selects RX0 yX0_excessOver yX0_excessOver]
def wsL_possible_r3 : List Cond := [Cond.code yX0_excessOver cX0_excessOver 6 (some .int), Cond.methodLink RX0 171 yX0_reachedFrom, Cond.instanceMethod yX0_reachedFrom, Cond.selects RX0 yX0_reachedFrom yX0_reachedFrom, Cond.code yX0_reachedFrom cX0_reachedFrom 4 (some .int), Cond.fieldLink RX0 23 "TurnEstimator" "targets" "[I", Cond.methodLink RX0 167 yX0_contains, Cond.static yX0_contains, Cond.code yX0_contains cX0_contains 2 (some .boolean), Cond.methodLink RX0 185 yX0_greatestPossible, Cond.instanceMethod yX0_greatestPossible, Cond.selects RX0 yX0_greatestPossible yX0_greatestPossible, Cond.code yX0_greatestPossible cX0_greatestPossible 7 (some .int), Cond.methodLink RX0 192 Lib.Math.min.name, Cond.static Lib.Math.min.name, Cond.initialized "java/lang/Math", Cond.code Lib.Math.min.name Lib.Math.min.code 2 (some .int), Cond.methodLink RX0 189 yX0_isOpen, Cond.instanceMethod yX0_isOpen, Cond.selects RX0 yX0_isOpen yX0_isOpen, Cond.code yX0_isOpen cX0_isOpen 3 (some .boolean), Cond.methodLink RX0 57 yX0_turn, Cond.static yX0_turn, Cond.code yX0_turn cX0_turn 2 (some .int)]
def wsL_possible : List Cond := .codeWith yL_possible cL_possible 5 (some .int) [(0, 10, 13, 19)] :: ((wsL_possible_r1 ++ (wsL_possible_r2 ++ wsL_possible_r3)) ++ wsX00 ++ (vx_atM "java/lang/ArrayIndexOutOfBoundsException" ["java/lang/IndexOutOfBoundsException", "java/lang/RuntimeException", "java/lang/Exception"]).filter goodWord ++ (vx_atS RX0 156 "java/lang/IndexOutOfBoundsException" ["java/lang/RuntimeException", "java/lang/Exception"]).filter goodWord)
def wsL_law0_r1 : List Cond := [Cond.classLink RL 8 RX0, Cond.instantiable RX0 11, Cond.initialized RX0, Cond.classLink RL 66 RX1, Cond.instantiable RX1 13, Cond.initialized RX1, Cond.arrayClass .long, Cond.arrayClass .double, Cond.methodLink RL 65 yX0_init, Cond.instanceMethod yX0_init, Cond.code yX0_init cX0_init 1 none, Cond.methodLink RX0 1 objectInit, Cond.instanceMethod objectInit, Cond.code objectInit ⟨#[0xb1]⟩ 1 none, Cond.arrayClass .int, Cond.fieldLink RX0 9 "TurnEstimator" "inflows" "[I", Cond.fieldLink RX0 13 "TurnEstimator" "outflows" "[I", Cond.fieldLink RX0 16 "TurnEstimator" "weights" "[I", Cond.fieldLink RX0 19 "TurnEstimator" "estimates" "[D", Cond.fieldLink RX0 23 "TurnEstimator" "targets" "[I", Cond.fieldLink RX0 26 "TurnEstimator" "roundedTable" "[I", Cond.fieldLink RX0 29 "TurnEstimator" "possibleTable" "[I", Cond.fieldLink RX0 32 "TurnEstimator" "outflowsLeft" "[I", Cond.fieldLink RX0 35 "TurnEstimator" "fractions" "[D"]
def wsL_law0_r2 : List Cond := [Cond.methodLink RX0 38 yX0_beginJunction, Cond.instanceMethod yX0_beginJunction, Cond.selects RX0 yX0_beginJunction yX0_beginJunction, Cond.code yX0_beginJunction cX0_beginJunction 4 none, Cond.fieldLink RX0 46 "TurnEstimator" "armCount" "I", Cond.methodLink RX0 61 yX0_putWeight, Cond.instanceMethod yX0_putWeight, Cond.selects RX0 yX0_putWeight yX0_putWeight, Cond.code yX0_putWeight cX0_putWeight 4 none, Cond.methodLink RX0 57 yX0_turn, Cond.static yX0_turn, Cond.code yX0_turn cX0_turn 2 (some .int), Cond.methodLink RX0 64 yX0_resetEstimate, Cond.instanceMethod yX0_resetEstimate, Cond.selects RX0 yX0_resetEstimate yX0_resetEstimate, Cond.code yX0_resetEstimate cX0_resetEstimate 3 none, Cond.fieldLink RX0 95 "TurnEstimator" "roundCount" "I", Cond.methodLink RL 68 yX1_init, Cond.instanceMethod yX1_init, Cond.code yX1_init cX1_init 1 none, Cond.methodLink RX1 1 objectInit, Cond.fieldLink RX1 7 "TurnEstimatorModel" "arms" "I", Cond.fieldLink RX1 13 "TurnEstimatorModel" "inflow" "[I", Cond.fieldLink RX1 17 "TurnEstimatorModel" "outflow" "[I"]
def wsL_law0_r3 : List Cond := [Cond.fieldLink RX1 20 "TurnEstimatorModel" "weights" "[I", Cond.fieldLink RX1 23 "TurnEstimatorModel" "estimates" "[D", Cond.fieldLink RX1 27 "TurnEstimatorModel" "whole" "[I", Cond.fieldLink RX1 30 "TurnEstimatorModel" "fraction" "[D", Cond.fieldLink RX1 33 "TurnEstimatorModel" "table" "[I", Cond.fieldLink RX1 36 "TurnEstimatorModel" "rowLeft" "[I", Cond.fieldLink RX1 39 "TurnEstimatorModel" "columnLeft" "[I", Cond.methodLink RX1 42 yX1_begin, Cond.instanceMethod yX1_begin, Cond.selects RX1 yX1_begin yX1_begin, Cond.code yX1_begin cX1_begin 2 none, Cond.methodLink RX1 55 yX1_layWeights, Cond.instanceMethod yX1_layWeights, Cond.selects RX1 yX1_layWeights yX1_layWeights, Cond.code yX1_layWeights cX1_layWeights 2 none, Cond.fieldLink RX1 52 "TurnEstimatorModel" "roundsDone" "I", Cond.methodLink RL 69 yL_setArms, Cond.static yL_setArms, Cond.initialized RL, Cond.codeWith yL_setArms cL_setArms 4 (some .int) [(0, 9, 12, 13)], Cond.classLink RL 13 "java/lang/IllegalArgumentException", Cond.methodLink RL 7 yX0_setArms, Cond.instanceMethod yX0_setArms, Cond.selects RX0 yX0_setArms yX0_setArms]
def wsL_law0_r4 : List Cond := [Cond.code yX0_setArms cX0_setArms 3 (some .int), Cond.methodLink RX0 42 yX0_requireWithin, Cond.static yX0_requireWithin, Cond.code yX0_requireWithin cX0_requireWithin 3 none, Cond.classLink RX0 157 "java/lang/IllegalArgumentException", Cond.initialized "java/lang/IllegalArgumentException", Cond.methodLink RL 74 yX1_setArms, Cond.instanceMethod yX1_setArms, Cond.selects RX1 yX1_setArms yX1_setArms, Cond.code yX1_setArms cX1_setArms 3 (some .int), Cond.fieldLink RX1 45 "TurnEstimatorModel" "thrown" "I", Cond.methodLink RX1 48 yX1_within, Cond.static yX1_within, Cond.code yX1_within cX1_within 3 (some .boolean), Cond.methodLink RL 75 yX1_thrown, Cond.instanceMethod yX1_thrown, Cond.selects RX1 yX1_thrown yX1_thrown, Cond.code yX1_thrown cX1_thrown 1 (some .int), Cond.methodLink RL 79 yX0_arms, Cond.instanceMethod yX0_arms, Cond.selects RX0 yX0_arms yX0_arms, Cond.code yX0_arms cX0_arms 1 (some .int), Cond.methodLink RL 82 yX1_arms, Cond.instanceMethod yX1_arms]
def wsL_law0_r5 : List Cond := [Cond.selects RX1 yX1_arms yX1_arms, Cond.code yX1_arms cX1_arms 1 (some .int), Cond.methodLink RL 83 yL_setInflow, Cond.static yL_setInflow, Cond.codeWith yL_setInflow cL_setInflow 5 (some .int) [(0, 10, 13, 19), (0, 10, 17, 13)], Cond.classLink RL 19 "java/lang/IndexOutOfBoundsException", Cond.methodLink RL 15 yX0_setInflow, Cond.instanceMethod yX0_setInflow, Cond.selects RX0 yX0_setInflow yX0_setInflow, Cond.code yX0_setInflow cX0_setInflow 3 (some .int), Cond.methodLink RX0 50 yX0_setCount, Cond.instanceMethod yX0_setCount, Cond.selects RX0 yX0_setCount yX0_setCount, Cond.code yX0_setCount cX0_setCount 5 (some .int), Cond.methodLink RX0 54 yX0_requireArm, Cond.instanceMethod yX0_requireArm, Cond.selects RX0 yX0_requireArm yX0_requireArm, Cond.code yX0_requireArm cX0_requireArm 2 none, Cond.classLink RX0 152 "java/lang/IndexOutOfBoundsException", Cond.initialized "java/lang/IndexOutOfBoundsException", Cond.methodLink RL 86 yX1_setInflow, Cond.instanceMethod yX1_setInflow, Cond.selects RX1 yX1_setInflow yX1_setInflow, Cond.code yX1_setInflow cX1_setInflow 4 (some .int)]
def wsL_law0_r6 : List Cond := [Cond.methodLink RX1 58 yX1_isArm, Cond.instanceMethod yX1_isArm, Cond.selects RX1 yX1_isArm yX1_isArm, Cond.code yX1_isArm cX1_isArm 2 (some .boolean), Cond.methodLink RL 87 yL_setOutflow, Cond.static yL_setOutflow, Cond.codeWith yL_setOutflow cL_setOutflow 5 (some .int) [(0, 10, 13, 19), (0, 10, 17, 13)], Cond.methodLink RL 21 yX0_setOutflow, Cond.instanceMethod yX0_setOutflow, Cond.selects RX0 yX0_setOutflow yX0_setOutflow, Cond.code yX0_setOutflow cX0_setOutflow 3 (some .int), Cond.methodLink RL 89 yX1_setOutflow, Cond.instanceMethod yX1_setOutflow, Cond.selects RX1 yX1_setOutflow yX1_setOutflow, Cond.code yX1_setOutflow cX1_setOutflow 4 (some .int), Cond.methodLink RL 90 yL_setWeight, Cond.static yL_setWeight, Cond.codeWith yL_setWeight cL_setWeight 6 (some .int) [(0, 12, 15, 19), (0, 12, 19, 13)], Cond.methodLink RL 24 yX0_setWeight, Cond.instanceMethod yX0_setWeight, Cond.selects RX0 yX0_setWeight yX0_setWeight, Cond.code yX0_setWeight cX0_setWeight 5 (some .int), Cond.methodLink RL 93 yX1_setWeight, Cond.instanceMethod yX1_setWeight]
def wsL_law0_r7 : List Cond := [Cond.selects RX1 yX1_setWeight yX1_setWeight, Cond.code yX1_setWeight cX1_setWeight 5 (some .int), Cond.methodLink RL 94 yL_scale, Cond.static yL_scale, Cond.codeWith yL_scale cL_scale 4 (some .int) [(0, 9, 12, 13), (0, 9, 15, 31)], Cond.classLink RL 31 "java/lang/IllegalStateException", Cond.methodLink RL 28 yX0_scale, Cond.instanceMethod yX0_scale, Cond.selects RX0 yX0_scale yX0_scale, Cond.code yX0_scale cX0_scale 3 (some .int), Cond.methodLink RX0 67 yX0_requireScalable, Cond.static yX0_requireScalable, Cond.code yX0_requireScalable cX0_requireScalable 2 none, Cond.classLink RX0 162 "java/lang/IllegalStateException", Cond.initialized "java/lang/IllegalStateException", Cond.methodLink RX0 71 yX0_scaled, Cond.static yX0_scaled, Cond.code yX0_scaled cX0_scaled 2 (some .int), Cond.methodLink RX0 74 yX0_total, Cond.instanceMethod yX0_total, Cond.selects RX0 yX0_total yX0_total, Cond.code yX0_total cX0_total 4 (some .int), Cond.methodLink RL 96 yX1_scale, Cond.instanceMethod yX1_scale]
def wsL_law0_r8 : List Cond := [Cond.selects RX1 yX1_scale yX1_scale, Cond.code yX1_scale cX1_scale 4 (some .int), Cond.methodLink RX1 66 yX1_isScalable, Cond.instanceMethod yX1_isScalable, Cond.selects RX1 yX1_isScalable yX1_isScalable, Cond.code yX1_isScalable cX1_isScalable 4 (some .boolean), Cond.methodLink RX1 62 yX1_scaled, Cond.static yX1_scaled, Cond.code yX1_scaled cX1_scaled 2 (some .int), Cond.methodLink RL 97 yX0_imbalance, Cond.instanceMethod yX0_imbalance, Cond.selects RX0 yX0_imbalance yX0_imbalance, Cond.code yX0_imbalance cX0_imbalance 1 (some .int), Cond.methodLink RL 100 yX1_imbalance, Cond.instanceMethod yX1_imbalance, Cond.selects RX1 yX1_imbalance yX1_imbalance, Cond.code yX1_imbalance cX1_imbalance 1 (some .int), Cond.methodLink RX1 69 yX1_difference, Cond.instanceMethod yX1_difference, Cond.selects RX1 yX1_difference yX1_difference, Cond.code yX1_difference cX1_difference 3 (some .int), Cond.methodLink RL 101 yX0_isPossible, Cond.instanceMethod yX0_isPossible, Cond.selects RX0 yX0_isPossible yX0_isPossible]
def wsL_law0_r9 : List Cond := [Cond.code yX0_isPossible cX0_isPossible 1 (some .boolean), Cond.methodLink RX0 78 yX0_imbalance, Cond.methodLink RX0 82 yX0_crowdedSet, Cond.instanceMethod yX0_crowdedSet, Cond.selects RX0 yX0_crowdedSet yX0_crowdedSet, Cond.code yX0_crowdedSet cX0_crowdedSet 2 (some .int), Cond.methodLink RX0 85 yX0_allArms, Cond.instanceMethod yX0_allArms, Cond.selects RX0 yX0_allArms yX0_allArms, Cond.code yX0_allArms cX0_allArms 1 (some .int), Cond.methodLink RX0 88 yX0_excessOver, Cond.instanceMethod yX0_excessOver, Cond.selects RX0 yX0_excessOver yX0_excessOver, Cond.code yX0_excessOver cX0_excessOver 6 (some .int), Cond.methodLink RX0 171 yX0_reachedFrom, Cond.instanceMethod yX0_reachedFrom, Cond.selects RX0 yX0_reachedFrom yX0_reachedFrom, Cond.code yX0_reachedFrom cX0_reachedFrom 4 (some .int), Cond.methodLink RX0 167 yX0_contains, Cond.static yX0_contains, Cond.code yX0_contains cX0_contains 2 (some .boolean), Cond.methodLink RL 105 yX1_isPossible, Cond.instanceMethod yX1_isPossible, Cond.selects RX1 yX1_isPossible yX1_isPossible]
def wsL_law0_r10 : List Cond := [Cond.code yX1_isPossible cX1_isPossible 1 (some .boolean), Cond.methodLink RX1 80 yX1_arePossible, Cond.instanceMethod yX1_arePossible, Cond.selects RX1 yX1_arePossible yX1_arePossible, Cond.code yX1_arePossible cX1_arePossible 1 (some .boolean), Cond.methodLink RX1 77 yX1_crowded, Cond.instanceMethod yX1_crowded, Cond.selects RX1 yX1_crowded yX1_crowded, Cond.code yX1_crowded cX1_crowded 2 (some .int), Cond.methodLink RX1 73 yX1_excessOf, Cond.instanceMethod yX1_excessOf, Cond.selects RX1 yX1_excessOf yX1_excessOf, Cond.code yX1_excessOf cX1_excessOf 6 (some .int), Cond.methodLink RL 106 yX0_crowdedSet, Cond.methodLink RL 109 yX1_crowdedSet, Cond.instanceMethod yX1_crowdedSet, Cond.selects RX1 yX1_crowdedSet yX1_crowdedSet, Cond.code yX1_crowdedSet cX1_crowdedSet 1 (some .int), Cond.methodLink RL 110 yL_excess, Cond.static yL_excess, Cond.codeWith yL_excess cL_excess 4 (some .int) [(0, 9, 12, 13)], Cond.methodLink RL 33 yX0_excess, Cond.instanceMethod yX0_excess, Cond.selects RX0 yX0_excess yX0_excess]
def wsL_law0_r11 : List Cond := [Cond.code yX0_excess cX0_excess 2 (some .int), Cond.methodLink RL 112 yX1_excess, Cond.instanceMethod yX1_excess, Cond.selects RX1 yX1_excess yX1_excess, Cond.code yX1_excess cX1_excess 2 (some .int), Cond.methodLink RL 113 yL_iterate, Cond.static yL_iterate, Cond.codeWith yL_iterate cL_iterate 4 (some .int) [(0, 9, 12, 13)], Cond.methodLink RL 36 yX0_iterate, Cond.instanceMethod yX0_iterate, Cond.selects RX0 yX0_iterate yX0_iterate, Cond.code yX0_iterate cX0_iterate 3 (some .int), Cond.methodLink RX0 92 yX0_carryOutRound, Cond.instanceMethod yX0_carryOutRound, Cond.selects RX0 yX0_carryOutRound yX0_carryOutRound, Cond.code yX0_carryOutRound cX0_carryOutRound 2 none, Cond.methodLink RX0 197 yX0_carryOutRowStep, Cond.instanceMethod yX0_carryOutRowStep, Cond.selects RX0 yX0_carryOutRowStep yX0_carryOutRowStep, Cond.code yX0_carryOutRowStep cX0_carryOutRowStep 7 none, Cond.methodLink RX0 109 yX0_rowSum, Cond.instanceMethod yX0_rowSum, Cond.selects RX0 yX0_rowSum yX0_rowSum, Cond.code yX0_rowSum cX0_rowSum 5 (some .double)]
def wsL_law0_r12 : List Cond := [Cond.methodLink RX0 200 yX0_carryOutColumnStep, Cond.instanceMethod yX0_carryOutColumnStep, Cond.selects RX0 yX0_carryOutColumnStep yX0_carryOutColumnStep, Cond.code yX0_carryOutColumnStep cX0_carryOutColumnStep 7 none, Cond.methodLink RX0 105 yX0_columnSum, Cond.instanceMethod yX0_columnSum, Cond.selects RX0 yX0_columnSum yX0_columnSum, Cond.code yX0_columnSum cX0_columnSum 5 (some .double), Cond.methodLink RL 115 yX1_iterate, Cond.instanceMethod yX1_iterate, Cond.selects RX1 yX1_iterate yX1_iterate, Cond.code yX1_iterate cX1_iterate 3 (some .int), Cond.methodLink RX1 102 yX1_oneRound, Cond.instanceMethod yX1_oneRound, Cond.selects RX1 yX1_oneRound yX1_oneRound, Cond.code yX1_oneRound cX1_oneRound 2 none, Cond.methodLink RX1 91 yX1_rowStep, Cond.instanceMethod yX1_rowStep, Cond.selects RX1 yX1_rowStep yX1_rowStep, Cond.code yX1_rowStep cX1_rowStep 7 none, Cond.methodLink RX1 84 yX1_rowSum, Cond.instanceMethod yX1_rowSum, Cond.selects RX1 yX1_rowSum yX1_rowSum, Cond.code yX1_rowSum cX1_rowSum 5 (some .double)]
def wsL_law0_r13 : List Cond := [Cond.methodLink RX1 95 yX1_columnStep, Cond.instanceMethod yX1_columnStep, Cond.selects RX1 yX1_columnStep yX1_columnStep, Cond.code yX1_columnStep cX1_columnStep 7 none, Cond.methodLink RX1 88 yX1_columnSum, Cond.instanceMethod yX1_columnSum, Cond.selects RX1 yX1_columnSum yX1_columnSum, Cond.code yX1_columnSum cX1_columnSum 5 (some .double), Cond.methodLink RL 116 yL_fit, Cond.static yL_fit, Cond.codeWith yL_fit cL_fit 5 (some .int) [(0, 10, 13, 13)], Cond.methodLink RL 39 yX0_fit, Cond.instanceMethod yX0_fit, Cond.selects RX0 yX0_fit yX0_fit, Cond.code yX0_fit cX0_fit 6 (some .int), Cond.constant RX0 98 (100000), Cond.constantDouble RX0 99 (4652007308841189376), Cond.methodLink RX0 101 yX0_misfit, Cond.instanceMethod yX0_misfit, Cond.selects RX0 yX0_misfit yX0_misfit, Cond.code yX0_misfit cX0_misfit 8 (some .double), Cond.methodLink RX0 112 yX0_distance, Cond.static yX0_distance, Cond.code yX0_distance cX0_distance 6 (some .double)]
def wsL_law0_r14 : List Cond := [Cond.methodLink RL 118 yX1_fit, Cond.instanceMethod yX1_fit, Cond.selects RX1 yX1_fit yX1_fit, Cond.code yX1_fit cX1_fit 4 (some .int), Cond.constant RX1 105 (100000), Cond.constantDouble RX1 110 (4652007308841189376), Cond.methodLink RX1 106 yX1_misfitNow, Cond.instanceMethod yX1_misfitNow, Cond.selects RX1 yX1_misfitNow yX1_misfitNow, Cond.code yX1_misfitNow cX1_misfitNow 8 (some .double), Cond.methodLink RX1 98 yX1_far, Cond.static yX1_far, Cond.code yX1_far cX1_far 4 (some .double), Cond.methodLink RL 119 yX0_reset, Cond.instanceMethod yX0_reset, Cond.selects RX0 yX0_reset yX0_reset, Cond.code yX0_reset cX0_reset 2 (some .int), Cond.methodLink RL 122 yX1_reset, Cond.instanceMethod yX1_reset, Cond.selects RX1 yX1_reset yX1_reset, Cond.code yX1_reset cX1_reset 2 (some .int), Cond.methodLink RL 123 yX0_rounds, Cond.instanceMethod yX0_rounds, Cond.selects RX0 yX0_rounds yX0_rounds]
def wsL_law0_r15 : List Cond := [Cond.code yX0_rounds cX0_rounds 1 (some .int), Cond.methodLink RL 126 yX1_rounds, Cond.instanceMethod yX1_rounds, Cond.selects RX1 yX1_rounds yX1_rounds, Cond.code yX1_rounds cX1_rounds 1 (some .int), Cond.methodLink RL 127 yL_estimate, Cond.static yL_estimate, Cond.codeWith yL_estimate cL_estimate 5 (some .int) [(0, 9, 12, 19)], Cond.methodLink RL 42 yX0_estimate, Cond.instanceMethod yX0_estimate, Cond.selects RX0 yX0_estimate yX0_estimate, Cond.code yX0_estimate cX0_estimate 3 (some .double), Cond.methodLink RL 130 yX1_estimate, Cond.instanceMethod yX1_estimate, Cond.selects RX1 yX1_estimate yX1_estimate, Cond.code yX1_estimate cX1_estimate 3 (some .double), Cond.methodLink RX1 112 yX1_areArms, Cond.instanceMethod yX1_areArms, Cond.selects RX1 yX1_areArms yX1_areArms, Cond.code yX1_areArms cX1_areArms 3 (some .boolean), Cond.methodLink RL 131 yL_sum, Cond.static yL_sum, Cond.codeWith yL_sum cL_sum 5 (some .int) [(0, 9, 12, 19)], Cond.methodLink RL 46 yX0_sum]
def wsL_law0_r16 : List Cond := [Cond.instanceMethod yX0_sum, Cond.selects RX0 yX0_sum yX0_sum, Cond.code yX0_sum cX0_sum 3 (some .double), Cond.methodLink RL 134 yX1_sum, Cond.instanceMethod yX1_sum, Cond.selects RX1 yX1_sum yX1_sum, Cond.code yX1_sum cX1_sum 3 (some .double), Cond.methodLink RL 135 yX0_misfit, Cond.methodLink RL 139 yX1_misfit, Cond.instanceMethod yX1_misfit, Cond.selects RX1 yX1_misfit yX1_misfit, Cond.code yX1_misfit cX1_misfit 1 (some .double), Cond.methodLink RL 140 yL_share, Cond.static yL_share, Cond.codeWith yL_share cL_share 5 (some .int) [(0, 9, 12, 19)], Cond.methodLink RL 50 yX0_share, Cond.instanceMethod yX0_share, Cond.selects RX0 yX0_share yX0_share, Cond.code yX0_share cX0_share 5 (some .double), Cond.methodLink RL 142 yX1_share, Cond.instanceMethod yX1_share, Cond.selects RX1 yX1_share yX1_share, Cond.code yX1_share cX1_share 3 (some .double), Cond.methodLink RL 143 yL_crossRatio]
def wsL_law0_r17 : List Cond := [Cond.static yL_crossRatio, Cond.codeWith yL_crossRatio cL_crossRatio 7 (some .int) [(0, 13, 16, 19), (0, 13, 20, 57)], Cond.classLink RL 57 "java/lang/ArithmeticException", Cond.methodLink RL 53 yX0_crossRatio, Cond.instanceMethod yX0_crossRatio, Cond.selects RX0 yX0_crossRatio yX0_crossRatio, Cond.code yX0_crossRatio cX0_crossRatio 9 (some .double), Cond.classLink RX0 116 "java/lang/ArithmeticException", Cond.initialized "java/lang/ArithmeticException", Cond.methodLink RL 146 yX1_crossRatio, Cond.instanceMethod yX1_crossRatio, Cond.selects RX1 yX1_crossRatio yX1_crossRatio, Cond.code yX1_crossRatio cX1_crossRatio 9 (some .double), Cond.methodLink RL 147 yX0_busiestTurn, Cond.instanceMethod yX0_busiestTurn, Cond.selects RX0 yX0_busiestTurn yX0_busiestTurn, Cond.code yX0_busiestTurn cX0_busiestTurn 6 (some .int), Cond.methodLink RL 150 yX1_busiestTurn, Cond.instanceMethod yX1_busiestTurn, Cond.selects RX1 yX1_busiestTurn yX1_busiestTurn, Cond.code yX1_busiestTurn cX1_busiestTurn 1 (some .int), Cond.methodLink RX1 116 yX1_busiest, Cond.instanceMethod yX1_busiest, Cond.selects RX1 yX1_busiest yX1_busiest]
def wsL_law0_r18 : List Cond := [Cond.code yX1_busiest cX1_busiest 8 (some .int), Cond.methodLink RL 151 yL_rounded, Cond.static yL_rounded, Cond.codeWith yL_rounded cL_rounded 5 (some .int) [(0, 10, 13, 19)], Cond.methodLink RL 59 yX0_rounded, Cond.instanceMethod yX0_rounded, Cond.selects RX0 yX0_rounded yX0_rounded, Cond.code yX0_rounded cX0_rounded 3 (some .int), Cond.methodLink RX0 123 yX0_roundRow, Cond.instanceMethod yX0_roundRow, Cond.selects RX0 yX0_roundRow yX0_roundRow, Cond.code yX0_roundRow cX0_roundRow 9 none, Cond.methodLink RX0 203 yX0_raiseGreatestFractions, Cond.instanceMethod yX0_raiseGreatestFractions, Cond.selects RX0 yX0_raiseGreatestFractions yX0_raiseGreatestFractions, Cond.code yX0_raiseGreatestFractions cX0_raiseGreatestFractions 6 none, Cond.methodLink RX0 192 Lib.Math.min.name, Cond.static Lib.Math.min.name, Cond.initialized "java/lang/Math", Cond.code Lib.Math.min.name Lib.Math.min.code 2 (some .int), Cond.constantDouble RX0 209 (13830554455654793216), Cond.methodLink RX0 206 yX0_greatestFraction, Cond.instanceMethod yX0_greatestFraction, Cond.selects RX0 yX0_greatestFraction yX0_greatestFraction]
def wsL_law0_r19 : List Cond := [Cond.code yX0_greatestFraction cX0_greatestFraction 6 (some .int), Cond.methodLink RX0 189 yX0_isOpen, Cond.instanceMethod yX0_isOpen, Cond.selects RX0 yX0_isOpen yX0_isOpen, Cond.code yX0_isOpen cX0_isOpen 3 (some .boolean), Cond.methodLink RL 153 yX1_rounded, Cond.instanceMethod yX1_rounded, Cond.selects RX1 yX1_rounded yX1_rounded, Cond.code yX1_rounded cX1_rounded 3 (some .int), Cond.methodLink RX1 124 yX1_roundRow, Cond.instanceMethod yX1_roundRow, Cond.selects RX1 yX1_roundRow yX1_roundRow, Cond.code yX1_roundRow cX1_roundRow 8 none, Cond.constantDouble RX1 122 (13830554455654793216), Cond.methodLink RX1 119 yX1_nextOf, Cond.instanceMethod yX1_nextOf, Cond.selects RX1 yX1_nextOf yX1_nextOf, Cond.code yX1_nextOf cX1_nextOf 5 (some .int), Cond.methodLink RL 154 yX0_roundedMisfit, Cond.instanceMethod yX0_roundedMisfit, Cond.selects RX0 yX0_roundedMisfit yX0_roundedMisfit, Cond.code yX0_roundedMisfit cX0_roundedMisfit 1 (some .int), Cond.methodLink RX0 126 yX0_roundAllRows, Cond.instanceMethod yX0_roundAllRows]
def wsL_law0_r20 : List Cond := [Cond.selects RX0 yX0_roundAllRows yX0_roundAllRows, Cond.code yX0_roundAllRows cX0_roundAllRows 2 none, Cond.methodLink RX0 129 yX0_roundedDifference, Cond.instanceMethod yX0_roundedDifference, Cond.selects RX0 yX0_roundedDifference yX0_roundedDifference, Cond.code yX0_roundedDifference cX0_roundedDifference 5 (some .int), Cond.methodLink RX0 211 Lib.Math.abs.name, Cond.static Lib.Math.abs.name, Cond.code Lib.Math.abs.name Lib.Math.abs.code 1 (some .int), Cond.methodLink RL 157 yX1_roundedMisfit, Cond.instanceMethod yX1_roundedMisfit, Cond.selects RX1 yX1_roundedMisfit yX1_roundedMisfit, Cond.code yX1_roundedMisfit cX1_roundedMisfit 1 (some .int), Cond.methodLink RX1 130 yX1_wholeMisfit, Cond.instanceMethod yX1_wholeMisfit, Cond.selects RX1 yX1_wholeMisfit yX1_wholeMisfit, Cond.code yX1_wholeMisfit cX1_wholeMisfit 5 (some .int), Cond.methodLink RX1 127 yX1_layWhole, Cond.instanceMethod yX1_layWhole, Cond.selects RX1 yX1_layWhole yX1_layWhole, Cond.code yX1_layWhole cX1_layWhole 2 none, Cond.methodLink RL 158 yL_possible, Cond.static yL_possible, Cond.codeWith yL_possible cL_possible 5 (some .int) [(0, 10, 13, 19)]]
def wsL_law0_r21 : List Cond := [Cond.methodLink RL 62 yX0_possible, Cond.instanceMethod yX0_possible, Cond.selects RX0 yX0_possible yX0_possible, Cond.code yX0_possible cX0_possible 3 (some .int), Cond.methodLink RX0 132 yX0_fillPossibleTable, Cond.instanceMethod yX0_fillPossibleTable, Cond.selects RX0 yX0_fillPossibleTable yX0_fillPossibleTable, Cond.code yX0_fillPossibleTable cX0_fillPossibleTable 6 none, Cond.methodLink RX0 179 arraycopyName, Cond.native arraycopyName, Cond.static arraycopyName, Cond.initialized "java/lang/System", Cond.methodLink RX0 175 yX0_isPossible, Cond.methodLink RX0 185 yX0_greatestPossible, Cond.instanceMethod yX0_greatestPossible, Cond.selects RX0 yX0_greatestPossible yX0_greatestPossible, Cond.code yX0_greatestPossible cX0_greatestPossible 7 (some .int), Cond.methodLink RL 160 yX1_possible, Cond.instanceMethod yX1_possible, Cond.selects RX1 yX1_possible yX1_possible, Cond.code yX1_possible cX1_possible 3 (some .int), Cond.methodLink RX1 143 yX1_possibleNow, Cond.instanceMethod yX1_possibleNow, Cond.selects RX1 yX1_possibleNow yX1_possibleNow]
def wsL_law0_r22 : List Cond := [Cond.code yX1_possibleNow cX1_possibleNow 3 (some .int), Cond.methodLink RX1 140 yX1_layTable, Cond.instanceMethod yX1_layTable, Cond.selects RX1 yX1_layTable yX1_layTable, Cond.code yX1_layTable cX1_layTable 3 none, Cond.methodLink RX1 136 yX1_layCell, Cond.instanceMethod yX1_layCell, Cond.selects RX1 yX1_layCell yX1_layCell, Cond.code yX1_layCell cX1_layCell 6 none, Cond.methodLink RX1 133 yX1_leftBy, Cond.instanceMethod yX1_leftBy, Cond.selects RX1 yX1_leftBy yX1_leftBy, Cond.code yX1_leftBy cX1_leftBy 8 (some .int), Cond.methodLink RL 161 yX0_digest, Cond.instanceMethod yX0_digest, Cond.selects RX0 yX0_digest yX0_digest, Cond.code yX0_digest cX0_digest 5 (some .long), Cond.constantLong RX0 135 (1873), Cond.methodLink RX0 137 yX0_mixed, Cond.static yX0_mixed, Cond.code yX0_mixed cX0_mixed 4 (some .long), Cond.constantLong RX0 214 (31), Cond.methodLink RX0 141 yX0_mixedTurn, Cond.instanceMethod yX0_mixedTurn]
def wsL_law0_r23 : List Cond := [Cond.selects RX0 yX0_mixedTurn yX0_mixedTurn, Cond.code yX0_mixedTurn cX0_mixedTurn 6 (some .long), Cond.methodLink RX0 145 yX0_thousandthsOf, Cond.static yX0_thousandthsOf, Cond.code yX0_thousandthsOf cX0_thousandthsOf 2 (some .long), Cond.methodLink RX0 149 yX0_busiestTurn, Cond.methodLink RL 165 yX1_digest, Cond.instanceMethod yX1_digest, Cond.selects RX1 yX1_digest yX1_digest, Cond.code yX1_digest cX1_digest 2 (some .long), Cond.constantLong RX1 158 (1873), Cond.fieldLink RX1 148 "TurnEstimatorModel" "h" "J", Cond.methodLink RX1 152 yX1_mix, Cond.instanceMethod yX1_mix, Cond.selects RX1 yX1_mix yX1_mix, Cond.code yX1_mix cX1_mix 3 none, Cond.constantLong RX1 146 (31), Cond.methodLink RX1 160 yX1_mixTurns, Cond.instanceMethod yX1_mixTurns, Cond.selects RX1 yX1_mixTurns yX1_mixTurns, Cond.code yX1_mixTurns cX1_mixTurns 4 none, Cond.constantLong RX1 156 (-1)]
def wsL_law0 : List Cond := (wsL_law0_r1 ++ (wsL_law0_r2 ++ (wsL_law0_r3 ++ (wsL_law0_r4 ++ (wsL_law0_r5 ++ (wsL_law0_r6 ++ (wsL_law0_r7 ++ (wsL_law0_r8 ++ (wsL_law0_r9 ++ (wsL_law0_r10 ++ (wsL_law0_r11 ++ (wsL_law0_r12 ++ (wsL_law0_r13 ++ (wsL_law0_r14 ++ (wsL_law0_r15 ++ (wsL_law0_r16 ++ (wsL_law0_r17 ++ (wsL_law0_r18 ++ (wsL_law0_r19 ++ (wsL_law0_r20 ++ (wsL_law0_r21 ++ (wsL_law0_r22 ++ wsL_law0_r23)))))))))))))))))))))) ++ wsX00 ++ wsX10 ++ ([] : List Cond)
def wsL_law : List Cond := wsL_law0 ++ (vx_atM "java/lang/ArrayIndexOutOfBoundsException" ["java/lang/IndexOutOfBoundsException", "java/lang/RuntimeException", "java/lang/Exception"]).filter goodWord ++ (vx_atS RX0 161 "java/lang/IllegalArgumentException" ["java/lang/RuntimeException", "java/lang/Exception"]).filter goodWord ++ (vx_atS RX0 156 "java/lang/IndexOutOfBoundsException" ["java/lang/RuntimeException", "java/lang/Exception"]).filter goodWord ++ (vx_atS RX0 166 "java/lang/IllegalStateException" ["java/lang/RuntimeException", "java/lang/Exception"]).filter goodWord ++ (vx_atS RX0 120 "java/lang/ArithmeticException" ["java/lang/RuntimeException", "java/lang/Exception"]).filter goodWord
end
section
set_option maxRecDepth 20000 in
theorem in_wsL_law0_r1 : ∀ w ∈ wsL_law0_r1, w ∈ lw_tbl := by decide +kernel
set_option maxRecDepth 20000 in
theorem in_wsL_law0_r2 : ∀ w ∈ wsL_law0_r2, w ∈ lw_tbl := by decide +kernel
set_option maxRecDepth 20000 in
theorem in_wsL_law0_r3 : ∀ w ∈ wsL_law0_r3, w ∈ lw_tbl := by decide +kernel
set_option maxRecDepth 20000 in
theorem in_wsL_law0_r4 : ∀ w ∈ wsL_law0_r4, w ∈ lw_tbl := by decide +kernel
set_option maxRecDepth 20000 in
theorem in_wsL_law0_r5 : ∀ w ∈ wsL_law0_r5, w ∈ lw_tbl := by decide +kernel
set_option maxRecDepth 20000 in
theorem in_wsL_law0_r6 : ∀ w ∈ wsL_law0_r6, w ∈ lw_tbl := by decide +kernel
set_option maxRecDepth 20000 in
theorem in_wsL_law0_r7 : ∀ w ∈ wsL_law0_r7, w ∈ lw_tbl := by decide +kernel
set_option maxRecDepth 20000 in
theorem in_wsL_law0_r8 : ∀ w ∈ wsL_law0_r8, w ∈ lw_tbl := by decide +kernel
set_option maxRecDepth 20000 in
theorem in_wsL_law0_r9 : ∀ w ∈ wsL_law0_r9, w ∈ lw_tbl := by decide +kernel
set_option maxRecDepth 20000 in
theorem in_wsL_law0_r10 : ∀ w ∈ wsL_law0_r10, w ∈ lw_tbl := by decide +kernel
set_option maxRecDepth 20000 in
theorem in_wsL_law0_r11 : ∀ w ∈ wsL_law0_r11, w ∈ lw_tbl := by decide +kernel
set_option maxRecDepth 20000 in
theorem in_wsL_law0_r12 : ∀ w ∈ wsL_law0_r12, w ∈ lw_tbl := by decide +kernel
set_option maxRecDepth 20000 in
theorem in_wsL_law0_r13 : ∀ w ∈ wsL_law0_r13, w ∈ lw_tbl := by decide +kernel
set_option maxRecDepth 20000 in
theorem in_wsL_law0_r14 : ∀ w ∈ wsL_law0_r14, w ∈ lw_tbl := by decide +kernel
set_option maxRecDepth 20000 in
theorem in_wsL_law0_r15 : ∀ w ∈ wsL_law0_r15, w ∈ lw_tbl := by decide +kernel
set_option maxRecDepth 20000 in
theorem in_wsL_law0_r16 : ∀ w ∈ wsL_law0_r16, w ∈ lw_tbl := by decide +kernel
set_option maxRecDepth 20000 in
theorem in_wsL_law0_r17 : ∀ w ∈ wsL_law0_r17, w ∈ lw_tbl := by decide +kernel
set_option maxRecDepth 20000 in
theorem in_wsL_law0_r18 : ∀ w ∈ wsL_law0_r18, w ∈ lw_tbl := by decide +kernel
set_option maxRecDepth 20000 in
theorem in_wsL_law0_r19 : ∀ w ∈ wsL_law0_r19, w ∈ lw_tbl := by decide +kernel
set_option maxRecDepth 20000 in
theorem in_wsL_law0_r20 : ∀ w ∈ wsL_law0_r20, w ∈ lw_tbl := by decide +kernel
set_option maxRecDepth 20000 in
theorem in_wsL_law0_r21 : ∀ w ∈ wsL_law0_r21, w ∈ lw_tbl := by decide +kernel
set_option maxRecDepth 20000 in
theorem in_wsL_law0_r22 : ∀ w ∈ wsL_law0_r22, w ∈ lw_tbl := by decide +kernel
set_option maxRecDepth 20000 in
theorem in_wsL_law0_r23 : ∀ w ∈ wsL_law0_r23, w ∈ lw_tbl := by decide +kernel
theorem in_X00 : ∀ w ∈ wsX00, w ∈ lw_tbl := by decide +kernel
theorem in_X10 : ∀ w ∈ wsX10, w ∈ lw_tbl := by decide +kernel
theorem wsL_law_in0 : ∀ w ∈ wsL_law0, w ∈ lw_tbl := fun w h => (List.mem_append.mp h).elim (fun h => (List.mem_append.mp h).elim (fun h => (List.mem_append.mp h).elim (fun h => (List.mem_append.mp h).elim (fun h => in_wsL_law0_r1 w h) (fun h => (List.mem_append.mp h).elim (fun h => in_wsL_law0_r2 w h) (fun h => (List.mem_append.mp h).elim (fun h => in_wsL_law0_r3 w h) (fun h => (List.mem_append.mp h).elim (fun h => in_wsL_law0_r4 w h) (fun h => (List.mem_append.mp h).elim (fun h => in_wsL_law0_r5 w h) (fun h => (List.mem_append.mp h).elim (fun h => in_wsL_law0_r6 w h) (fun h => (List.mem_append.mp h).elim (fun h => in_wsL_law0_r7 w h) (fun h => (List.mem_append.mp h).elim (fun h => in_wsL_law0_r8 w h) (fun h => (List.mem_append.mp h).elim (fun h => in_wsL_law0_r9 w h) (fun h => (List.mem_append.mp h).elim (fun h => in_wsL_law0_r10 w h) (fun h => (List.mem_append.mp h).elim (fun h => in_wsL_law0_r11 w h) (fun h => (List.mem_append.mp h).elim (fun h => in_wsL_law0_r12 w h) (fun h => (List.mem_append.mp h).elim (fun h => in_wsL_law0_r13 w h) (fun h => (List.mem_append.mp h).elim (fun h => in_wsL_law0_r14 w h) (fun h => (List.mem_append.mp h).elim (fun h => in_wsL_law0_r15 w h) (fun h => (List.mem_append.mp h).elim (fun h => in_wsL_law0_r16 w h) (fun h => (List.mem_append.mp h).elim (fun h => in_wsL_law0_r17 w h) (fun h => (List.mem_append.mp h).elim (fun h => in_wsL_law0_r18 w h) (fun h => (List.mem_append.mp h).elim (fun h => in_wsL_law0_r19 w h) (fun h => (List.mem_append.mp h).elim (fun h => in_wsL_law0_r20 w h) (fun h => (List.mem_append.mp h).elim (fun h => in_wsL_law0_r21 w h) (fun h => (List.mem_append.mp h).elim (fun h => in_wsL_law0_r22 w h) (fun h => in_wsL_law0_r23 w h))))))))))))))))))))))) (fun h => in_X00 w h)) (fun h => in_X10 w h)) (fun h => nomatch h)
theorem wsL_law_x0 : ∀ w ∈ (vx_atM "java/lang/ArrayIndexOutOfBoundsException" ["java/lang/IndexOutOfBoundsException", "java/lang/RuntimeException", "java/lang/Exception"]).filter goodWord, w ∈ lw_tbl := by decide +kernel
theorem wsL_law_x1 : ∀ w ∈ (vx_atS RX0 161 "java/lang/IllegalArgumentException" ["java/lang/RuntimeException", "java/lang/Exception"]).filter goodWord, w ∈ lw_tbl := by decide +kernel
theorem wsL_law_x2 : ∀ w ∈ (vx_atS RX0 156 "java/lang/IndexOutOfBoundsException" ["java/lang/RuntimeException", "java/lang/Exception"]).filter goodWord, w ∈ lw_tbl := by decide +kernel
theorem wsL_law_x3 : ∀ w ∈ (vx_atS RX0 166 "java/lang/IllegalStateException" ["java/lang/RuntimeException", "java/lang/Exception"]).filter goodWord, w ∈ lw_tbl := by decide +kernel
theorem wsL_law_x4 : ∀ w ∈ (vx_atS RX0 120 "java/lang/ArithmeticException" ["java/lang/RuntimeException", "java/lang/Exception"]).filter goodWord, w ∈ lw_tbl := by decide +kernel
theorem wsL_law_in : ∀ w ∈ wsL_law, w ∈ lw_tbl := fun w h => (List.mem_append.mp h).elim (fun h => (List.mem_append.mp h).elim (fun h => (List.mem_append.mp h).elim (fun h => (List.mem_append.mp h).elim (fun h => (List.mem_append.mp h).elim (fun h => wsL_law_in0 w h) (fun h => wsL_law_x0 w h)) (fun h => wsL_law_x1 w h)) (fun h => wsL_law_x2 w h)) (fun h => wsL_law_x3 w h)) (fun h => wsL_law_x4 w h)
theorem inlX0 : ∀ w ∈ wsX00, w ∈ wsL_law := fun _ h => List.mem_append_left _ (List.mem_append_left _ (List.mem_append_left _ (List.mem_append_left _ (List.mem_append_left _ (List.mem_append_left _ (List.mem_append_left _ (List.mem_append_right _ h)))))))
theorem inX0 : ∀ w ∈ wsX00, w ∈ lw_tbl := fun w h => wsL_law_in w (inlX0 w h)
theorem inlX1 : ∀ w ∈ wsX10, w ∈ wsL_law := fun _ h => List.mem_append_left _ (List.mem_append_left _ (List.mem_append_left _ (List.mem_append_left _ (List.mem_append_left _ (List.mem_append_left _ (List.mem_append_right _ h))))))
theorem inX1 : ∀ w ∈ wsX10, w ∈ lw_tbl := fun w h => wsL_law_in w (inlX1 w h)
theorem inJx00060 : ∀ w ∈ wsJx000600, w ∈ lw_tbl := by decide +kernel
theorem inJ9 : ∀ w ∈ wsJ90, w ∈ lw_tbl := by decide +kernel
theorem inJ0 : ∀ w ∈ wsJ00, w ∈ lw_tbl := by decide +kernel
theorem inJ10 : ∀ w ∈ wsJ100, w ∈ lw_tbl := by decide +kernel
end
section
/-! my own rows: rows of the kit with Nat indices, boolean tests, double comparisons -/
def bI (b : Bool) : Int32 := if b = true then 1 else 0
theorem bI_t : bI true = 1 := rfl
theorem bI_f : bI false = 0 := rfl
def dgt (x y : UInt64) : Bool := FP.dcmp x y == some .gt
def dlt (x y : UInt64) : Bool := FP.dcmp x y == some .lt
def dge (x y : UInt64) : Bool := FP.dcmp x y == some .gt || FP.dcmp x y == some .eq
def deq (x y : UInt64) : Bool := FP.dcmp x y == some .eq
def ag1 (n : Nat) (f g : Nat → Int32) : Prop := ∀ j : Nat, j < n → f j = g j
def ag2 {α : Type} (n : Nat) (f : Nat → α) (g : Nat → Nat → α) : Prop := ∀ i j : Nat, i < n → j < n → f (6 * i + j) = g i j
def upd2 {α : Type} (f : Nat → Nat → α) (i j : Nat) (v : α) : Nat → Nat → α := fun a b => if a = i ∧ b = j then v else f a b
theorem nI_mul6 (i : Nat) : nI i * 6 = nI (6 * i) := by
  rw [Nat.mul_comm]; exact (Int32.ofNat_mul i 6).symm
theorem nI_6mul (i : Nat) : 6 * nI i = nI (6 * i) := (Int32.ofNat_mul 6 i).symm
theorem nI_10mul (i : Nat) : 10 * nI i = nI (10 * i) := (Int32.ofNat_mul 10 i).symm
theorem ag2_upd {n : Nat} {f : Nat → Int32} {g : Nat → Nat → Int32} (h : ag2 n f g) (hn : n ≤ 6) {i j : Nat} (hj : j < n) (v : Int32) : ag2 n (upd f (6 * i + j) v) (upd2 g i j v) := by
  intro a b ha hb
  unfold upd upd2
  by_cases hab : a = i ∧ b = j
  · rw [if_pos hab, if_pos (by omega)]
  · rw [if_neg hab, if_neg (by omega)]
    exact h a b ha hb
theorem ag2_updD {n : Nat} {f : Nat → UInt64} {g : Nat → Nat → UInt64} (h : ag2 n f g) (hn : n ≤ 6) {i j : Nat} (hj : j < n) (v : UInt64) : ag2 n (vf_upd f (6 * i + j) v) (upd2 g i j v) := by
  intro a b ha hb
  unfold vf_upd upd2
  by_cases hab : a = i ∧ b = j
  · rw [if_pos hab, if_pos (by omega)]
  · rw [if_neg hab, if_neg (by omega)]
    exact h a b ha hb
theorem ag1_upd {n : Nat} {f g : Nat → Int32} (h : ag1 n f g) (i : Nat) (v : Int32) : ag1 n (upd f i v) (upd g i v) := by
  intro a ha
  unfold upd
  by_cases hab : a = i
  · rw [if_pos hab, if_pos hab]
  · rw [if_neg hab, if_neg hab]
    exact h a ha
/-- the same addresses: what was apart is apart -/
theorem va_D.same {A : Nat → Prop} {w w' : va_W} (h : va_D A w) (he : w'.map (fun q => q.1) = w.map (fun q => q.1)) : va_D A w' := by
  have key : ∀ (k : Nat) (q : Nat × va_E), w'[k]? = some q → ∃ q0, w[k]? = some q0 ∧ q0.1 = q.1 := by
    intro k q hk
    have h1 : (w'.map (fun q => q.1))[k]? = some q.1 := by rw [List.getElem?_map, hk]; rfl
    rw [he, List.getElem?_map] at h1
    cases h2 : w[k]? with
    | none => rw [h2] at h1; cases h1
    | some q0 => rw [h2] at h1; exact ⟨q0, rfl, Option.some.inj h1⟩
  refine ⟨fun i j x y hi hj hxy => ?_, fun k q hk => ?_⟩
  · obtain ⟨x0, h1, h2⟩ := key i x hi
    obtain ⟨y0, h3, h4⟩ := key j y hj
    exact h.1 i j x0 y0 h1 h3 (h2.trans (hxy.trans h4.symm))
  · obtain ⟨q0, h1, h2⟩ := key k q hk
    rw [← h2]
    exact h.2 k q0 h1
section MYR
variable {p : Program} {l : Launch} {e : Env} {R : Room} {s : State} {m : MethodId} {args : Array Value} {below : List Frame} {meth : Method} {c : Code} {H : Heap} {locs : List Loc} {cells slots : Nat} {Q : State → Prop}
variable {cc : ByteArray} {pc : Nat} {ls : Array Slot} {rest : List Value} {D : va_G} {cl : List vw_C} {A : Nat → Prop} {a : Nat} {tys : List (ClassId × FieldType)} {ws : va_W} {H0 : Heap}
theorem w_iadd (hexec : p.tables.exec = Jvm.exec) (hb : c.code = cc) {x y : Nat} (hdg : decode cc pc = .ok (.iadd, 1)) (k : W p l e R s m args below meth c H locs cells slots Q (F0 m (pc + 1) ls (.int (nI (x + y)) :: rest))) : W p l e R s m args below meth c H locs cells slots Q (F0 m pc ls (.int (nI y) :: .int (nI x) :: rest)) :=
  lv_iadd hexec hb hdg (by rw [nI_add]; exact k)
theorem w_imulL {N x y : Nat} {v : Int32} (hexec : p.tables.exec = Jvm.exec) (hb : c.code = cc) (hv : v = nI N) (hdg : decode cc pc = .ok (.imul, 1)) (k : W p l e R s m args below meth c H locs cells slots Q (F0 m (pc + 1) ls (.int (nI (N * x)) :: rest))) : W p l e R s m args below meth c H locs cells slots Q (F0 m pc ls (.int (nI x) :: .int v :: rest)) :=
  lv_imul hexec hb hdg (by rw [hv, show nI N * nI x = nI (N * x) from (Int32.ofNat_mul N x).symm]; exact k)
theorem w_imulR {N x : Nat} {v : Int32} (hexec : p.tables.exec = Jvm.exec) (hb : c.code = cc) (hv : v = nI N) (hdg : decode cc pc = .ok (.imul, 1)) (k : W p l e R s m args below meth c H locs cells slots Q (F0 m (pc + 1) ls (.int (nI (N * x)) :: rest))) : W p l e R s m args below meth c H locs cells slots Q (F0 m pc ls (.int v :: .int (nI x) :: rest)) :=
  lv_imul hexec hb hdg (by rw [hv, show nI x * nI N = nI (N * x) from by rw [Nat.mul_comm]; exact (Int32.ofNat_mul x N).symm]; exact k)
theorem w_iald (hexec : p.tables.exec = Jvm.exec) (hb : c.code = cc) (hK : va_K D cl tys s) (hP : va_P D cl ws H) (q0 t0 : Nat) {cA : ClassId} {n : Nat} {f : Nat → Int32} (ha : ws[q0]? = some (a, .inl (cA, n, .inl f))) (ht : tys[t0]? = some (cA, .int)) {j : Nat} {v : Int32} (hv : f j = v) (hj : j < n) (hn : n < 2 ^ 31) (hdg : decode cc pc = .ok (.iaload, 1))
    (kk : W p l e R s m args below meth c H locs cells slots Q (F0 m (pc + 1) ls (.int v :: rest))) : W p l e R s m args below meth c H locs cells slots Q (F0 m pc ls (.int (nI j) :: .ref a :: rest)) :=
  va_iald hexec hb hK hP q0 t0 ha ht (vp_in_nI hj hn) hdg (by rw [nI_clamp (Nat.lt_trans hj hn), hv]; exact kk)
theorem w_dald (hexec : p.tables.exec = Jvm.exec) (hb : c.code = cc) (hK : va_K D cl tys s) (hP : va_P D cl ws H) (q0 t0 : Nat) {cA : ClassId} {n : Nat} {f : Nat → UInt64} (ha : ws[q0]? = some (a, .inl (cA, n, .inr (.inr (.inr (.inl f)))))) (ht : tys[t0]? = some (cA, .double)) {j : Nat} {v : UInt64} (hv : f j = v) (hj : j < n) (hn : n < 2 ^ 31) (hdg : decode cc pc = .ok (.daload, 1))
    (kk : W p l e R s m args below meth c H locs cells slots Q (F0 m (pc + 1) ls (.double v :: rest))) : W p l e R s m args below meth c H locs cells slots Q (F0 m pc ls (.int (nI j) :: .ref a :: rest)) :=
  va_dald hexec hb hK hP q0 t0 ha ht (vp_in_nI hj hn) hdg (by rw [nI_clamp (Nat.lt_trans hj hn), hv]; exact kk)
theorem w_iast (hexec : p.tables.exec = Jvm.exec) (hb : c.code = cc) (hK : va_K D cl tys s) (hP : va_P D cl ws H) (hD : va_D A ws) (hS : va_S A H0 H locs) (q0 t0 : Nat) {cA : ClassId} {n : Nat} {f : Nat → Int32} (ha : ws[q0]? = some (a, .inl (cA, n, .inl f))) (ht : tys[t0]? = some (cA, .int)) {j : Nat} {x : Int32} (hj : j < n) (hn : n < 2 ^ 31) (hdg : decode cc pc = .ok (.iastore, 1))
    (kk : ∀ (H1 : Heap) (locs1 : List Loc), va_P D cl (ws.set q0 (a, .inl (cA, n, .inl (upd f j x)))) H1 → va_D A (ws.set q0 (a, .inl (cA, n, .inl (upd f j x)))) → va_S A H0 H1 locs1 → W p l e R s m args below meth c H1 locs1 cells slots Q (F0 m (pc + 1) ls rest)) : W p l e R s m args below meth c H locs cells slots Q (F0 m pc ls (.int x :: .int (nI j) :: .ref a :: rest)) :=
  va_iast hexec hb hK hP hD hS q0 t0 ha ht (vp_in_nI hj hn) hdg (by rw [nI_clamp (Nat.lt_trans hj hn)]; exact kk)
theorem w_dast (hexec : p.tables.exec = Jvm.exec) (hb : c.code = cc) (hK : va_K D cl tys s) (hP : va_P D cl ws H) (hD : va_D A ws) (hS : va_S A H0 H locs) (q0 t0 : Nat) {cA : ClassId} {n : Nat} {f : Nat → UInt64} (ha : ws[q0]? = some (a, .inl (cA, n, .inr (.inr (.inr (.inl f)))))) (ht : tys[t0]? = some (cA, .double)) {j : Nat} {x : UInt64} (hj : j < n) (hn : n < 2 ^ 31) (hdg : decode cc pc = .ok (.dastore, 1))
    (kk : ∀ (H1 : Heap) (locs1 : List Loc), va_P D cl (ws.set q0 (a, .inl (cA, n, .inr (.inr (.inr (.inl (vf_upd f j x))))))) H1 → va_D A (ws.set q0 (a, .inl (cA, n, .inr (.inr (.inr (.inl (vf_upd f j x))))))) → va_S A H0 H1 locs1 → W p l e R s m args below meth c H1 locs1 cells slots Q (F0 m (pc + 1) ls rest)) : W p l e R s m args below meth c H locs cells slots Q (F0 m pc ls (.double x :: .int (nI j) :: .ref a :: rest)) :=
  va_dast hexec hb hK hP hD hS q0 t0 ha ht (vp_in_nI hj hn) hdg (by rw [nI_clamp (Nat.lt_trans hj hn)]; exact kk)
/-- tests of an answer that is 0 or 1 -/
theorem w_ifBeq (hexec : p.tables.exec = Jvm.exec) (hb : c.code = cc) {x : Bool} {off : Int} {tgt : Nat} (hdg : decode cc pc = .ok (.ifCond .eq off, 3)) (ht : (pc : Int) + off = (tgt : Int))
    (kt : x = false → W p l e R s m args below meth c H locs cells slots Q (F0 m tgt ls rest)) (kf : x = true → W p l e R s m args below meth c H locs cells slots Q (F0 m (pc + 3) ls rest)) : W p l e R s m args below meth c H locs cells slots Q (F0 m pc ls (.int (bI x) :: rest)) :=
  lv_if_eq hexec hb hdg ht (fun h => kt (by cases x; rfl; exact absurd h (by decide))) (fun h => kf (by cases x; exact absurd rfl h; rfl))
theorem w_ifBne (hexec : p.tables.exec = Jvm.exec) (hb : c.code = cc) {x : Bool} {off : Int} {tgt : Nat} (hdg : decode cc pc = .ok (.ifCond .ne off, 3)) (ht : (pc : Int) + off = (tgt : Int))
    (kt : x = true → W p l e R s m args below meth c H locs cells slots Q (F0 m tgt ls rest)) (kf : x = false → W p l e R s m args below meth c H locs cells slots Q (F0 m (pc + 3) ls rest)) : W p l e R s m args below meth c H locs cells slots Q (F0 m pc ls (.int (bI x) :: rest)) :=
  lv_if_ne hexec hb hdg ht (fun h => kt (by cases x; exact absurd rfl h; rfl)) (fun h => kf (by cases x; rfl; exact absurd h (by decide)))
/-- x > y: dcmpl, ifle -/
theorem w_dgt (hexec : p.tables.exec = Jvm.exec) (hb : c.code = cc) {x y : UInt64} {off : Int} {tgt : Nat} (hd1 : decode cc pc = .ok (.dcmp .l, 1)) (hd2 : decode cc (pc + 1) = .ok (.ifCond .le off, 3)) (ht : ((pc + 1 : Nat) : Int) + off = (tgt : Int))
    (kt : dgt x y = false → W p l e R s m args below meth c H locs cells slots Q (F0 m tgt ls rest)) (kf : dgt x y = true → W p l e R s m args below meth c H locs cells slots Q (F0 m (pc + 4) ls rest)) : W p l e R s m args below meth c H locs cells slots Q (F0 m pc ls (.double y :: .double x :: rest)) := by
  refine lv_dcmp hexec hb hd1 ?_
  refine lv_if_le hexec hb hd2 ht (fun h => kt ?_) (fun h => kf ?_)
  · unfold dgt; revert h; rcases FP.dcmp x y with _ | (_ | _ | _) <;> decide
  · unfold dgt; revert h; rcases FP.dcmp x y with _ | (_ | _ | _) <;> decide
/-- x < y: dcmpg, ifge -/
theorem w_dlt (hexec : p.tables.exec = Jvm.exec) (hb : c.code = cc) {x y : UInt64} {off : Int} {tgt : Nat} (hd1 : decode cc pc = .ok (.dcmp .g, 1)) (hd2 : decode cc (pc + 1) = .ok (.ifCond .ge off, 3)) (ht : ((pc + 1 : Nat) : Int) + off = (tgt : Int))
    (kt : dlt x y = false → W p l e R s m args below meth c H locs cells slots Q (F0 m tgt ls rest)) (kf : dlt x y = true → W p l e R s m args below meth c H locs cells slots Q (F0 m (pc + 4) ls rest)) : W p l e R s m args below meth c H locs cells slots Q (F0 m pc ls (.double y :: .double x :: rest)) := by
  refine lv_dcmp hexec hb hd1 ?_
  refine lv_if_ge hexec hb hd2 ht (fun h => kt ?_) (fun h => kf ?_)
  · unfold dlt; revert h; rcases FP.dcmp x y with _ | (_ | _ | _) <;> decide
  · unfold dlt; revert h; rcases FP.dcmp x y with _ | (_ | _ | _) <;> decide
/-- x >= y: dcmpl, iflt -/
theorem w_dge (hexec : p.tables.exec = Jvm.exec) (hb : c.code = cc) {x y : UInt64} {off : Int} {tgt : Nat} (hd1 : decode cc pc = .ok (.dcmp .l, 1)) (hd2 : decode cc (pc + 1) = .ok (.ifCond .lt off, 3)) (ht : ((pc + 1 : Nat) : Int) + off = (tgt : Int))
    (kt : dge x y = false → W p l e R s m args below meth c H locs cells slots Q (F0 m tgt ls rest)) (kf : dge x y = true → W p l e R s m args below meth c H locs cells slots Q (F0 m (pc + 4) ls rest)) : W p l e R s m args below meth c H locs cells slots Q (F0 m pc ls (.double y :: .double x :: rest)) := by
  refine lv_dcmp hexec hb hd1 ?_
  refine lv_if_lt hexec hb hd2 ht (fun h => kt ?_) (fun h => kf ?_)
  · unfold dge; revert h; rcases FP.dcmp x y with _ | (_ | _ | _) <;> decide
  · unfold dge; revert h; rcases FP.dcmp x y with _ | (_ | _ | _) <;> decide
end MYR
end
section
/-! the two worlds: the component's object with its nine arrays, the reference's with its nine -/
abbrev cls2 : List vw_C := [(RX0, TX0, 11), (RX1, TX1, 13)]
abbrev tys2 (cI cD : ClassId) : List (ClassId × FieldType) := [(cI, .int), (cD, .double)]
abbrev aI (cI : ClassId) (n : Nat) (f : Nat → Int32) : va_E := .inl (cI, n, .inl f)
abbrev aD (cD : ClassId) (n : Nat) (f : Nat → UInt64) : va_E := .inl (cD, n, .inr (.inr (.inr (.inl f))))
/-- component: inflows outflows weights estimates targets roundedTable possibleTable outflowsLeft fractions -/
abbrev cW (q : Nat → Nat) (cI cD : ClassId) (nA rC : Int32) (fi fo fw : Nat → Int32) (fe : Nat → UInt64) (ft fr fp fl : Nat → Int32) (ff : Nat → UInt64) : va_W :=
  [(q 0, .inr (0, [.ref (q 1), .ref (q 2), .ref (q 3), .ref (q 4), .ref (q 5), .ref (q 6), .ref (q 7), .ref (q 8), .ref (q 9), .int nA, .int rC])), (q 1, aI cI 6 fi), (q 2, aI cI 6 fo), (q 3, aI cI 36 fw), (q 4, aD cD 36 fe), (q 5, aI cI 6 ft), (q 6, aI cI 36 fr), (q 7, aI cI 36 fp), (q 8, aI cI 6 fl), (q 9, aD cD 6 ff)]
/-- reference: inflow outflow weights estimates whole fraction table rowLeft columnLeft -/
abbrev mW (q : Nat → Nat) (cI cD : ClassId) (th nA rC : Int32) (hh : Int64) (fi fo fw : Nat → Int32) (fe : Nat → UInt64) (fr : Nat → Int32) (ff : Nat → UInt64) (fp fl fc : Nat → Int32) : va_W :=
  [(q 0, .inr (1, [.int th, .int nA, .ref (q 1), .ref (q 2), .ref (q 3), .ref (q 4), .int rC, .ref (q 5), .ref (q 6), .ref (q 7), .ref (q 8), .ref (q 9), .long hh])), (q 1, aI cI 6 fi), (q 2, aI cI 6 fo), (q 3, aI cI 36 fw), (q 4, aD cD 36 fe), (q 5, aI cI 36 fr), (q 6, aD cD 6 ff), (q 7, aI cI 36 fp), (q 8, aI cI 6 fl), (q 9, aI cI 6 fc)]
/-- the ten addresses are apart -/
def qD (q : Nat → Nat) : Prop := ∀ i j : Nat, i < 10 → j < 10 → q i = q j → i = j
def qA (q : Nat → Nat) : Nat → Prop := fun x => ∃ k : Nat, k < 10 ∧ x = q k
theorem wD_of {q : Nat → Nat} (hq : qD q) {w : va_W} (he : w.map (fun x => x.1) = [q 0, q 1, q 2, q 3, q 4, q 5, q 6, q 7, q 8, q 9]) : va_D (qA q) w := by
  have he' : w.map (fun x => x.1) = (List.range 10).map q := he
  have key : ∀ (k : Nat) (x : Nat × va_E), w[k]? = some x → k < 10 ∧ x.1 = q k := by
    intro k x hk
    have h1 : (w.map (fun x => x.1))[k]? = some x.1 := by rw [List.getElem?_map, hk]; rfl
    rw [he', List.getElem?_map] at h1
    by_cases h : k < 10
    · rw [List.getElem?_range h] at h1
      exact ⟨h, (Option.some.inj h1).symm⟩
    · rw [List.getElem?_eq_none (by rw [List.length_range]; omega)] at h1
      cases h1
  refine ⟨fun i j x y hi hj hxy => ?_, fun k x hk => ?_⟩
  · obtain ⟨h1, h2⟩ := key i x hi
    obtain ⟨h3, h4⟩ := key j y hj
    exact hq i j h1 h3 (by rw [← h2, ← h4, hxy])
  · obtain ⟨h1, h2⟩ := key k x hk
    exact ⟨k, h1, h2⟩
def wPre (D : va_G) (tys : List (ClassId × FieldType)) (ws : va_W) : State → Prop := fun U => va_P D cls2 ws U.heap ∧ va_K D cls2 tys U
theorem wBlind (D : va_G) (tys : List (ClassId × FieldType)) (ws : va_W) (av : List Value) : FrameBlind (va_Pc av (wPre D tys ws)) := fun a U g mk h => ⟨h.1, h.2.1, va_K.moved (u := U) (U := U.calling g mk a) (Vm.Alike.refl U.vm) h.2.2⟩
theorem nBlind (av : List Value) : FrameBlind (va_Pc av (fun _ => True)) := fun a U g mk h => h
theorem preV {s : State} {H : Heap} {D : va_G} {tys : List (ClassId × FieldType)} {ws : va_W} {b ci : Nat} {fs As : List Value} {C : String} {T : u_T} {N : Nat} (hK : va_K D cls2 tys s) (hP : va_P D cls2 ws H) (h0 : ws[0]? = some (b, .inr (ci, fs))) (hc : cls2[ci]? = some (C, T, N)) : PreV s H C b (va_Pc (.ref b :: As) (wPre D tys ws)) As :=
  ⟨wBlind D tys ws _, va_recv hK hP hc h0, fun U hU hW => ⟨rfl, by rw [hU]; exact hP, va_K.moved hW.alike hK⟩⟩
theorem preS {s : State} {H : Heap} {As : List Value} : PreS s H (va_Pc As (fun _ => True)) As := ⟨nBlind As, fun U hU hW => ⟨rfl, trivial⟩⟩
/-- a method's contract out of the walk of its body -/
theorem met_intro {l : Launch} {y : MethodName} {ws ws' : List Cond} {rm : Room} {Qc : Array Value → State → Outcome → State → Prop} {mc ms : Nat} {free : Addr → Prop} {cc : ByteArray} {maxL : Nat} {ret : Option FieldType} {own : String} {vs : List Value} {B : State → Prop}
    (hy : plainName y.cls = true) (hw : ws = Cond.code y cc maxL ret :: ws') (hcls : y.cls = own) (hlen : (lg_sl vs).length ≤ maxL)
    (body : ∀ p e s m args below meth c (Q : State → Prop) (ls : Array Slot), Q = MQ below Qc args s mc ms free → CallFix p m c cc maxL s args ws own → meth.sig.returnType = ret → meth.locks = false → args = vs.toArray → B s → lv_has ls maxL (lv_args 0 vs) → W p l e rm s m args below meth c s.heap [] 0 0 Q (F0 m 0 ls [])) : Met l y ws rm (va_Pc vs B) Qc mc ms free := by
  refine Met.ofW (cc := cc) (maxL := maxL) (ret := ret) hy hw ?_
  intro p e s m args below meth c s₁ BB hml hv
  obtain ⟨hv0, hB⟩ := hv
  have hts := atoms_spec (ws := ws) BB.pre
  have hown : s.vm.findClass own = some m.cls := by rw [← hcls]; exact findClass_of_methodNamed BB.named
  have hl := lv_entry vs (n := maxL) hlen
  have key := body p e s m args below meth c _ _ rfl ⟨BB.exec, BB.bytes, hml, hown, hts⟩ BB.returns BB.notSynchronized hv0 hB hl
  rw [hv0, lg_entry_eq]
  rw [hv0] at key
  exact key
section MYC
variable {p : Program} {l : Launch} {e : Env} {R : Room} {s : State} {m : MethodId} {args : Array Value} {below : List Frame} {meth : Method} {c : Code} {H : Heap} {locs : List Loc} {cells slots : Nat} {Q : State → Prop}
variable {cc : ByteArray} {pc : Nat} {ls : Array Slot} {rest : List Value} {D : va_G} {cI cD : ClassId} {q : Nat → Nat} {Ts : List Cond} {nL : Nat}
/-- a field of the component's object -/
theorem w_getC {own : String} {index : Nat} {ws : va_W} {fs : List Value} {tys : List (ClassId × FieldType)} (S : CallFix p m c cc nL s args Ts RX0) (hin : ∀ w ∈ wsX00, w ∈ Ts) (hK : va_K D cls2 tys s) (hP : va_P D cls2 ws H) (he : ws[0]? = some (q 0, .inr (0, fs))) (k : Nat) (hk : k < 11) (hlink : Cond.fieldLink RX0 index RX0 (TX0 k).2.1 (TX0 k).2.2.1 ∈ Ts) {v : Value} (hv : fs[k]? = some v) (hsame : (TX0 k).1 = RX0) (hdg : decode cc pc = .ok (.getfield index, 3))
    (kk : W p l e R s m args below meth c H locs cells slots Q (F0 m (pc + 3) ls (v :: rest))) : W p l e R s m args below meth c H locs cells slots Q (F0 m pc ls (.ref (q 0) :: rest)) :=
  va_get (C := RX0) (T := TX0) (N := 11) (ci := 0) S.1 S.2.1 S.2.2.2.2 hin S.2.2.2.1 hK hP 0 he rfl k hk (S.2.2.2.2 _ hlink) (fun x h => by rw [hsame] at h; exact h) hv hdg kk
theorem w_getM {own : String} {index : Nat} {ws : va_W} {fs : List Value} {tys : List (ClassId × FieldType)} (S : CallFix p m c cc nL s args Ts RX1) (hin : ∀ w ∈ wsX10, w ∈ Ts) (hK : va_K D cls2 tys s) (hP : va_P D cls2 ws H) (he : ws[0]? = some (q 0, .inr (1, fs))) (k : Nat) (hk : k < 13) (hlink : Cond.fieldLink RX1 index RX1 (TX1 k).2.1 (TX1 k).2.2.1 ∈ Ts) {v : Value} (hv : fs[k]? = some v) (hsame : (TX1 k).1 = RX1) (hdg : decode cc pc = .ok (.getfield index, 3))
    (kk : W p l e R s m args below meth c H locs cells slots Q (F0 m (pc + 3) ls (v :: rest))) : W p l e R s m args below meth c H locs cells slots Q (F0 m pc ls (.ref (q 0) :: rest)) :=
  va_get (C := RX1) (T := TX1) (N := 13) (ci := 1) S.1 S.2.1 S.2.2.2.2 hin S.2.2.2.1 hK hP 0 he rfl k hk (S.2.2.2.2 _ hlink) (fun x h => by rw [hsame] at h; exact h) hv hdg kk
theorem w_putC {A : Nat → Prop} {H0 : Heap} {index : Nat} {ws : va_W} {fs : List Value} {tys : List (ClassId × FieldType)} (S : CallFix p m c cc nL s args Ts RX0) (hin : ∀ w ∈ wsX00, w ∈ Ts) (hK : va_K D cls2 tys s) (hP : va_P D cls2 ws H) (hD : va_D A ws) (hS : va_S A H0 H locs) (he : ws[0]? = some (q 0, .inr (0, fs))) (k : Nat) (hk : k < 11) (hlink : Cond.fieldLink RX0 index RX0 (TX0 k).2.1 (TX0 k).2.2.1 ∈ Ts) (hfin : (TX0 k).2.2.2 = false) {ty : FieldType} {v : Value} (hd : parseFieldDescriptor (TX0 k).2.2.1 = some ty) (hn : narrow ty v = v) (hfit : fits ty v = true) (hl : k < fs.length) (hsame : (TX0 k).1 = RX0) (hdg : decode cc pc = .ok (.putfield index, 3))
    (kk : ∀ (H1 : Heap) (locs1 : List Loc), va_P D cls2 (ws.set 0 (q 0, .inr (0, fs.set k v))) H1 → va_S A H0 H1 locs1 → W p l e R s m args below meth c H1 locs1 cells slots Q (F0 m (pc + 3) ls rest)) : W p l e R s m args below meth c H locs cells slots Q (F0 m pc ls (v :: .ref (q 0) :: rest)) :=
  va_put (C := RX0) (T := TX0) (N := 11) (ci := 0) S.1 S.2.1 S.2.2.2.2 hin tyX0 tyX0_ok nmX0 S.2.2.2.1 hK hP hD hS 0 he rfl k hk (S.2.2.2.2 _ hlink) (fun x h => by rw [hsame] at h; exact h) hfin hd hn hfit hl hdg (fun H1 l1 h1 _ h3 => kk H1 l1 h1 h3)
theorem w_putM {A : Nat → Prop} {H0 : Heap} {index : Nat} {ws : va_W} {fs : List Value} {tys : List (ClassId × FieldType)} (S : CallFix p m c cc nL s args Ts RX1) (hin : ∀ w ∈ wsX10, w ∈ Ts) (hK : va_K D cls2 tys s) (hP : va_P D cls2 ws H) (hD : va_D A ws) (hS : va_S A H0 H locs) (he : ws[0]? = some (q 0, .inr (1, fs))) (k : Nat) (hk : k < 13) (hlink : Cond.fieldLink RX1 index RX1 (TX1 k).2.1 (TX1 k).2.2.1 ∈ Ts) (hfin : (TX1 k).2.2.2 = false) {ty : FieldType} {v : Value} (hd : parseFieldDescriptor (TX1 k).2.2.1 = some ty) (hn : narrow ty v = v) (hfit : fits ty v = true) (hl : k < fs.length) (hsame : (TX1 k).1 = RX1) (hdg : decode cc pc = .ok (.putfield index, 3))
    (kk : ∀ (H1 : Heap) (locs1 : List Loc), va_P D cls2 (ws.set 0 (q 0, .inr (1, fs.set k v))) H1 → va_S A H0 H1 locs1 → W p l e R s m args below meth c H1 locs1 cells slots Q (F0 m (pc + 3) ls rest)) : W p l e R s m args below meth c H locs cells slots Q (F0 m pc ls (v :: .ref (q 0) :: rest)) :=
  va_put (C := RX1) (T := TX1) (N := 13) (ci := 1) S.1 S.2.1 S.2.2.2.2 hin tyX1 tyX1_ok nmX1 S.2.2.2.1 hK hP hD hS 0 he rfl k hk (S.2.2.2.2 _ hlink) (fun x h => by rw [hsame] at h; exact h) hfin hd hn hfit hl hdg (fun H1 l1 h1 _ h3 => kk H1 l1 h1 h3)
end MYC
end
