theorem dX0_contains_0 : decode cX0_contains 0 = .ok (.iload_n 0, 1) := by decide +kernel
theorem dX0_contains_1 : decode cX0_contains 1 = .ok (.iconst 1, 1) := by decide +kernel
theorem dX0_contains_2 : decode cX0_contains 2 = .ok (.iload_n 1, 1) := by decide +kernel
theorem dX0_contains_3 : decode cX0_contains 3 = .ok (.ishl, 1) := by decide +kernel
theorem dX0_contains_4 : decode cX0_contains 4 = .ok (.iand, 1) := by decide +kernel
theorem dX0_contains_5 : decode cX0_contains 5 = .ok (.ifCond .eq 7, 3) := by decide +kernel
theorem dX0_contains_8 : decode cX0_contains 8 = .ok (.iconst 1, 1) := by decide +kernel
theorem dX0_contains_9 : decode cX0_contains 9 = .ok (.goto 4, 3) := by decide +kernel
theorem dX0_contains_12 : decode cX0_contains 12 = .ok (.iconst 0, 1) := by decide +kernel
theorem dX0_contains_13 : decode cX0_contains 13 = .ok (.ireturn, 1) := by decide +kernel
set_option maxRecDepth 20000 in
theorem ggX0_isOpen_X0_contains : GoodIn wsX0_isOpen wsX0_contains := goodIn_r _ [5] (by decide +kernel) (by decide +kernel)
set_option maxRecDepth 20000 in
theorem gX0_isOpen_X0_contains : GoodIn wsX0_isOpen (va_wsS RX0 167 yX0_contains wsX0_contains) := goodIn_app (goodIn_of _ (by decide +kernel)) ggX0_isOpen_X0_contains
theorem dX0_isOpen_0 : decode cX0_isOpen 0 = .ok (.aload_n 0, 1) := by decide +kernel
theorem dX0_isOpen_1 : decode cX0_isOpen 1 = .ok (.getfield 23, 3) := by decide +kernel
theorem dX0_isOpen_4 : decode cX0_isOpen 4 = .ok (.iload_n 1, 1) := by decide +kernel
theorem dX0_isOpen_5 : decode cX0_isOpen 5 = .ok (.iaload, 1) := by decide +kernel
theorem dX0_isOpen_6 : decode cX0_isOpen 6 = .ok (.iload_n 2, 1) := by decide +kernel
theorem dX0_isOpen_7 : decode cX0_isOpen 7 = .ok (.invokestatic 167, 3) := by decide +kernel
theorem dX0_isOpen_10 : decode cX0_isOpen 10 = .ok (.ireturn, 1) := by decide +kernel
set_option maxRecDepth 20000 in
theorem ggX0_beginJunction_X0_putWeight : GoodIn wsX0_beginJunction wsX0_putWeight := goodIn_ca (goodIn_r _ [9, 10, 4, 11, 12, 8, 13, 20, 21, 22, 23, 24, 25, 26, 27, 28, 29, 30] (by decide +kernel) (by decide +kernel)) (goodIn_sub (fun _ h => List.mem_cons_of_mem _ (List.mem_append_right _ h)) (by decide +kernel))
set_option maxRecDepth 20000 in
theorem gX0_beginJunction_X0_putWeight : GoodIn wsX0_beginJunction (wsV RX0 61 RX0 yX0_putWeight wsX0_putWeight) := goodIn_app (goodIn_of _ (by decide +kernel)) ggX0_beginJunction_X0_putWeight
set_option maxRecDepth 20000 in
theorem ggX0_beginJunction_X0_resetEstimate : GoodIn wsX0_beginJunction wsX0_resetEstimate := goodIn_ca (goodIn_r _ [17, 1, 18, 10, 19, 11, 12, 8, 13, 20, 21, 22, 23, 24, 25, 26, 27, 28, 29, 30] (by decide +kernel) (by decide +kernel)) (goodIn_sub (fun _ h => List.mem_cons_of_mem _ (List.mem_append_right _ h)) (by decide +kernel))
set_option maxRecDepth 20000 in
theorem gX0_beginJunction_X0_resetEstimate : GoodIn wsX0_beginJunction (wsV RX0 64 RX0 yX0_resetEstimate wsX0_resetEstimate) := goodIn_app (goodIn_of _ (by decide +kernel)) ggX0_beginJunction_X0_resetEstimate
theorem dX0_beginJunction_0 : decode cX0_beginJunction 0 = .ok (.aload_n 0, 1) := by decide +kernel
theorem dX0_beginJunction_1 : decode cX0_beginJunction 1 = .ok (.iload_n 1, 1) := by decide +kernel
theorem dX0_beginJunction_2 : decode cX0_beginJunction 2 = .ok (.putfield 46, 3) := by decide +kernel
theorem dX0_beginJunction_5 : decode cX0_beginJunction 5 = .ok (.iconst 0, 1) := by decide +kernel
theorem dX0_beginJunction_6 : decode cX0_beginJunction 6 = .ok (.istore_n 2, 1) := by decide +kernel
theorem dX0_beginJunction_7 : decode cX0_beginJunction 7 = .ok (.iload_n 2, 1) := by decide +kernel
theorem dX0_beginJunction_8 : decode cX0_beginJunction 8 = .ok (.aload_n 0, 1) := by decide +kernel
theorem dX0_beginJunction_9 : decode cX0_beginJunction 9 = .ok (.getfield 46, 3) := by decide +kernel
theorem dX0_beginJunction_12 : decode cX0_beginJunction 12 = .ok (.if_icmp .ge 62, 3) := by decide +kernel
theorem dX0_beginJunction_15 : decode cX0_beginJunction 15 = .ok (.aload_n 0, 1) := by decide +kernel
theorem dX0_beginJunction_16 : decode cX0_beginJunction 16 = .ok (.getfield 9, 3) := by decide +kernel
theorem dX0_beginJunction_19 : decode cX0_beginJunction 19 = .ok (.iload_n 2, 1) := by decide +kernel
theorem dX0_beginJunction_20 : decode cX0_beginJunction 20 = .ok (.iconst 0, 1) := by decide +kernel
theorem dX0_beginJunction_21 : decode cX0_beginJunction 21 = .ok (.iastore, 1) := by decide +kernel
theorem dX0_beginJunction_22 : decode cX0_beginJunction 22 = .ok (.aload_n 0, 1) := by decide +kernel
theorem dX0_beginJunction_23 : decode cX0_beginJunction 23 = .ok (.getfield 13, 3) := by decide +kernel
theorem dX0_beginJunction_26 : decode cX0_beginJunction 26 = .ok (.iload_n 2, 1) := by decide +kernel
theorem dX0_beginJunction_27 : decode cX0_beginJunction 27 = .ok (.iconst 0, 1) := by decide +kernel
theorem dX0_beginJunction_28 : decode cX0_beginJunction 28 = .ok (.iastore, 1) := by decide +kernel
theorem dX0_beginJunction_29 : decode cX0_beginJunction 29 = .ok (.aload_n 0, 1) := by decide +kernel
theorem dX0_beginJunction_30 : decode cX0_beginJunction 30 = .ok (.getfield 23, 3) := by decide +kernel
theorem dX0_beginJunction_33 : decode cX0_beginJunction 33 = .ok (.iload_n 2, 1) := by decide +kernel
theorem dX0_beginJunction_34 : decode cX0_beginJunction 34 = .ok (.iconst 0, 1) := by decide +kernel
theorem dX0_beginJunction_35 : decode cX0_beginJunction 35 = .ok (.iastore, 1) := by decide +kernel
theorem dX0_beginJunction_36 : decode cX0_beginJunction 36 = .ok (.iconst 0, 1) := by decide +kernel
theorem dX0_beginJunction_37 : decode cX0_beginJunction 37 = .ok (.istore_n 3, 1) := by decide +kernel
theorem dX0_beginJunction_38 : decode cX0_beginJunction 38 = .ok (.iload_n 3, 1) := by decide +kernel
theorem dX0_beginJunction_39 : decode cX0_beginJunction 39 = .ok (.aload_n 0, 1) := by decide +kernel
theorem dX0_beginJunction_40 : decode cX0_beginJunction 40 = .ok (.getfield 46, 3) := by decide +kernel
theorem dX0_beginJunction_43 : decode cX0_beginJunction 43 = .ok (.if_icmp .ge 25, 3) := by decide +kernel
theorem dX0_beginJunction_46 : decode cX0_beginJunction 46 = .ok (.aload_n 0, 1) := by decide +kernel
theorem dX0_beginJunction_47 : decode cX0_beginJunction 47 = .ok (.iload_n 2, 1) := by decide +kernel
theorem dX0_beginJunction_48 : decode cX0_beginJunction 48 = .ok (.iload_n 3, 1) := by decide +kernel
theorem dX0_beginJunction_49 : decode cX0_beginJunction 49 = .ok (.iload_n 2, 1) := by decide +kernel
theorem dX0_beginJunction_50 : decode cX0_beginJunction 50 = .ok (.iload_n 3, 1) := by decide +kernel
theorem dX0_beginJunction_51 : decode cX0_beginJunction 51 = .ok (.if_icmp .ne 7, 3) := by decide +kernel
theorem dX0_beginJunction_54 : decode cX0_beginJunction 54 = .ok (.iconst 0, 1) := by decide +kernel
theorem dX0_beginJunction_55 : decode cX0_beginJunction 55 = .ok (.goto 4, 3) := by decide +kernel
theorem dX0_beginJunction_58 : decode cX0_beginJunction 58 = .ok (.iconst 1, 1) := by decide +kernel
theorem dX0_beginJunction_59 : decode cX0_beginJunction 59 = .ok (.invokevirtual 61, 3) := by decide +kernel
theorem dX0_beginJunction_62 : decode cX0_beginJunction 62 = .ok (.iinc 3 1, 3) := by decide +kernel
theorem dX0_beginJunction_65 : decode cX0_beginJunction 65 = .ok (.goto (-27), 3) := by decide +kernel
theorem dX0_beginJunction_68 : decode cX0_beginJunction 68 = .ok (.iinc 2 1, 3) := by decide +kernel
theorem dX0_beginJunction_71 : decode cX0_beginJunction 71 = .ok (.goto (-64), 3) := by decide +kernel
theorem dX0_beginJunction_74 : decode cX0_beginJunction 74 = .ok (.aload_n 0, 1) := by decide +kernel
theorem dX0_beginJunction_75 : decode cX0_beginJunction 75 = .ok (.invokevirtual 64, 3) := by decide +kernel
theorem dX0_beginJunction_78 : decode cX0_beginJunction 78 = .ok (.return_, 1) := by decide +kernel
set_option maxRecDepth 20000 in
theorem ggX0_putWeight_X0_turn : GoodIn wsX0_putWeight wsX0_turn := goodIn_r _ [6] (by decide +kernel) (by decide +kernel)
set_option maxRecDepth 20000 in
theorem gX0_putWeight_X0_turn : GoodIn wsX0_putWeight (va_wsS RX0 57 yX0_turn wsX0_turn) := goodIn_app (goodIn_of _ (by decide +kernel)) ggX0_putWeight_X0_turn
theorem dX0_putWeight_0 : decode cX0_putWeight 0 = .ok (.aload_n 0, 1) := by decide +kernel
theorem dX0_putWeight_1 : decode cX0_putWeight 1 = .ok (.getfield 16, 3) := by decide +kernel
theorem dX0_putWeight_4 : decode cX0_putWeight 4 = .ok (.iload_n 1, 1) := by decide +kernel
theorem dX0_putWeight_5 : decode cX0_putWeight 5 = .ok (.iload_n 2, 1) := by decide +kernel
theorem dX0_putWeight_6 : decode cX0_putWeight 6 = .ok (.invokestatic 57, 3) := by decide +kernel
theorem dX0_putWeight_9 : decode cX0_putWeight 9 = .ok (.iload_n 3, 1) := by decide +kernel
theorem dX0_putWeight_10 : decode cX0_putWeight 10 = .ok (.iastore, 1) := by decide +kernel
theorem dX0_putWeight_11 : decode cX0_putWeight 11 = .ok (.iload_n 3, 1) := by decide +kernel
theorem dX0_putWeight_12 : decode cX0_putWeight 12 = .ok (.ifCond .le 18, 3) := by decide +kernel
theorem dX0_putWeight_15 : decode cX0_putWeight 15 = .ok (.aload_n 0, 1) := by decide +kernel
theorem dX0_putWeight_16 : decode cX0_putWeight 16 = .ok (.getfield 23, 3) := by decide +kernel
theorem dX0_putWeight_19 : decode cX0_putWeight 19 = .ok (.iload_n 1, 1) := by decide +kernel
theorem dX0_putWeight_20 : decode cX0_putWeight 20 = .ok (.dup2, 1) := by decide +kernel
theorem dX0_putWeight_21 : decode cX0_putWeight 21 = .ok (.iaload, 1) := by decide +kernel
theorem dX0_putWeight_22 : decode cX0_putWeight 22 = .ok (.iconst 1, 1) := by decide +kernel
theorem dX0_putWeight_23 : decode cX0_putWeight 23 = .ok (.iload_n 2, 1) := by decide +kernel
theorem dX0_putWeight_24 : decode cX0_putWeight 24 = .ok (.ishl, 1) := by decide +kernel
theorem dX0_putWeight_25 : decode cX0_putWeight 25 = .ok (.ior, 1) := by decide +kernel
theorem dX0_putWeight_26 : decode cX0_putWeight 26 = .ok (.iastore, 1) := by decide +kernel
theorem dX0_putWeight_27 : decode cX0_putWeight 27 = .ok (.goto 17, 3) := by decide +kernel
theorem dX0_putWeight_30 : decode cX0_putWeight 30 = .ok (.aload_n 0, 1) := by decide +kernel
theorem dX0_putWeight_31 : decode cX0_putWeight 31 = .ok (.getfield 23, 3) := by decide +kernel
theorem dX0_putWeight_34 : decode cX0_putWeight 34 = .ok (.iload_n 1, 1) := by decide +kernel
theorem dX0_putWeight_35 : decode cX0_putWeight 35 = .ok (.dup2, 1) := by decide +kernel
theorem dX0_putWeight_36 : decode cX0_putWeight 36 = .ok (.iaload, 1) := by decide +kernel
theorem dX0_putWeight_37 : decode cX0_putWeight 37 = .ok (.iconst 1, 1) := by decide +kernel
theorem dX0_putWeight_38 : decode cX0_putWeight 38 = .ok (.iload_n 2, 1) := by decide +kernel
theorem dX0_putWeight_39 : decode cX0_putWeight 39 = .ok (.ishl, 1) := by decide +kernel
theorem dX0_putWeight_40 : decode cX0_putWeight 40 = .ok (.iconst (-1), 1) := by decide +kernel
theorem dX0_putWeight_41 : decode cX0_putWeight 41 = .ok (.ixor, 1) := by decide +kernel
theorem dX0_putWeight_42 : decode cX0_putWeight 42 = .ok (.iand, 1) := by decide +kernel
theorem dX0_putWeight_43 : decode cX0_putWeight 43 = .ok (.iastore, 1) := by decide +kernel
theorem dX0_putWeight_44 : decode cX0_putWeight 44 = .ok (.return_, 1) := by decide +kernel
set_option maxRecDepth 20000 in
theorem ggX0_setCount_X0_requireArm : GoodIn wsX0_setCount wsX0_requireArm := goodIn_ca (goodIn_r _ [5, 6, 7, 8, 24, 25, 26, 27, 28, 29, 30, 31, 32, 33, 34] (by decide +kernel) (by decide +kernel)) (goodIn_sub (fun _ h => List.mem_cons_of_mem _ (List.mem_append_left _ (List.mem_append_right _ h))) (by decide +kernel))
set_option maxRecDepth 20000 in
theorem gX0_setCount_X0_requireArm : GoodIn wsX0_setCount (wsV RX0 54 RX0 yX0_requireArm wsX0_requireArm) := goodIn_app (goodIn_of _ (by decide +kernel)) ggX0_setCount_X0_requireArm
set_option maxRecDepth 20000 in
theorem ggX0_setCount_X0_requireWithin : GoodIn wsX0_setCount wsX0_requireWithin := goodIn_ca (goodIn_r _ [11, 12, 13] (by decide +kernel) (by decide +kernel)) (goodIn_sub (fun _ h => List.mem_cons_of_mem _ (List.mem_append_right _ h)) (by decide +kernel))
set_option maxRecDepth 20000 in
theorem gX0_setCount_X0_requireWithin : GoodIn wsX0_setCount (va_wsS RX0 42 yX0_requireWithin wsX0_requireWithin) := goodIn_app (goodIn_of _ (by decide +kernel)) ggX0_setCount_X0_requireWithin
set_option maxRecDepth 20000 in
theorem ggX0_setCount_X0_resetEstimate : GoodIn wsX0_setCount wsX0_resetEstimate := goodIn_ca (goodIn_r _ [17, 8, 18, 19, 20, 21, 22, 4, 23, 24, 25, 26, 27, 28, 29, 30, 31, 32, 33, 34] (by decide +kernel) (by decide +kernel)) (goodIn_sub (fun _ h => List.mem_cons_of_mem _ (List.mem_append_left _ (List.mem_append_left _ (List.mem_append_right _ h)))) (by decide +kernel))
set_option maxRecDepth 20000 in
theorem gX0_setCount_X0_resetEstimate : GoodIn wsX0_setCount (wsV RX0 64 RX0 yX0_resetEstimate wsX0_resetEstimate) := goodIn_app (goodIn_of _ (by decide +kernel)) ggX0_setCount_X0_resetEstimate
theorem dX0_setCount_0 : decode cX0_setCount 0 = .ok (.aload_n 0, 1) := by decide +kernel
theorem dX0_setCount_1 : decode cX0_setCount 1 = .ok (.iload_n 2, 1) := by decide +kernel
theorem dX0_setCount_2 : decode cX0_setCount 2 = .ok (.invokevirtual 54, 3) := by decide +kernel
theorem dX0_setCount_5 : decode cX0_setCount 5 = .ok (.iload_n 3, 1) := by decide +kernel
theorem dX0_setCount_6 : decode cX0_setCount 6 = .ok (.iconst 0, 1) := by decide +kernel
theorem dX0_setCount_7 : decode cX0_setCount 7 = .ok (.sipush 9999, 3) := by decide +kernel
theorem dX0_setCount_10 : decode cX0_setCount 10 = .ok (.invokestatic 42, 3) := by decide +kernel
theorem dX0_setCount_13 : decode cX0_setCount 13 = .ok (.aload_n 1, 1) := by decide +kernel
theorem dX0_setCount_14 : decode cX0_setCount 14 = .ok (.iload_n 2, 1) := by decide +kernel
theorem dX0_setCount_15 : decode cX0_setCount 15 = .ok (.iaload, 1) := by decide +kernel
theorem dX0_setCount_16 : decode cX0_setCount 16 = .ok (.istore 4, 2) := by decide +kernel
theorem dX0_setCount_18 : decode cX0_setCount 18 = .ok (.aload_n 1, 1) := by decide +kernel
theorem dX0_setCount_19 : decode cX0_setCount 19 = .ok (.iload_n 2, 1) := by decide +kernel
theorem dX0_setCount_20 : decode cX0_setCount 20 = .ok (.iload_n 3, 1) := by decide +kernel
theorem dX0_setCount_21 : decode cX0_setCount 21 = .ok (.iastore, 1) := by decide +kernel
theorem dX0_setCount_22 : decode cX0_setCount 22 = .ok (.aload_n 0, 1) := by decide +kernel
theorem dX0_setCount_23 : decode cX0_setCount 23 = .ok (.invokevirtual 64, 3) := by decide +kernel
theorem dX0_setCount_26 : decode cX0_setCount 26 = .ok (.iload 4, 2) := by decide +kernel
theorem dX0_setCount_28 : decode cX0_setCount 28 = .ok (.ireturn, 1) := by decide +kernel
theorem dX0_scaled_0 : decode cX0_scaled 0 = .ok (.iload_n 0, 1) := by decide +kernel
theorem dX0_scaled_1 : decode cX0_scaled 1 = .ok (.iload_n 1, 1) := by decide +kernel
theorem dX0_scaled_2 : decode cX0_scaled 2 = .ok (.imul, 1) := by decide +kernel
theorem dX0_scaled_3 : decode cX0_scaled 3 = .ok (.bipush 50, 2) := by decide +kernel
theorem dX0_scaled_5 : decode cX0_scaled 5 = .ok (.iadd, 1) := by decide +kernel
theorem dX0_scaled_6 : decode cX0_scaled 6 = .ok (.bipush 100, 2) := by decide +kernel
theorem dX0_scaled_8 : decode cX0_scaled 8 = .ok (.idiv, 1) := by decide +kernel
theorem dX0_scaled_9 : decode cX0_scaled 9 = .ok (.ireturn, 1) := by decide +kernel
theorem dX0_total_0 : decode cX0_total 0 = .ok (.iconst 0, 1) := by decide +kernel
theorem dX0_total_1 : decode cX0_total 1 = .ok (.istore_n 2, 1) := by decide +kernel
theorem dX0_total_2 : decode cX0_total 2 = .ok (.iconst 0, 1) := by decide +kernel
theorem dX0_total_3 : decode cX0_total 3 = .ok (.istore_n 3, 1) := by decide +kernel
theorem dX0_total_4 : decode cX0_total 4 = .ok (.iload_n 3, 1) := by decide +kernel
theorem dX0_total_5 : decode cX0_total 5 = .ok (.aload_n 0, 1) := by decide +kernel
theorem dX0_total_6 : decode cX0_total 6 = .ok (.getfield 46, 3) := by decide +kernel
theorem dX0_total_9 : decode cX0_total 9 = .ok (.if_icmp .ge 15, 3) := by decide +kernel
theorem dX0_total_12 : decode cX0_total 12 = .ok (.iload_n 2, 1) := by decide +kernel
theorem dX0_total_13 : decode cX0_total 13 = .ok (.aload_n 1, 1) := by decide +kernel
theorem dX0_total_14 : decode cX0_total 14 = .ok (.iload_n 3, 1) := by decide +kernel
theorem dX0_total_15 : decode cX0_total 15 = .ok (.iaload, 1) := by decide +kernel
theorem dX0_total_16 : decode cX0_total 16 = .ok (.iadd, 1) := by decide +kernel
theorem dX0_total_17 : decode cX0_total 17 = .ok (.istore_n 2, 1) := by decide +kernel
theorem dX0_total_18 : decode cX0_total 18 = .ok (.iinc 3 1, 3) := by decide +kernel
theorem dX0_total_21 : decode cX0_total 21 = .ok (.goto (-17), 3) := by decide +kernel
theorem dX0_total_24 : decode cX0_total 24 = .ok (.iload_n 2, 1) := by decide +kernel
theorem dX0_total_25 : decode cX0_total 25 = .ok (.ireturn, 1) := by decide +kernel
set_option maxRecDepth 20000 in
theorem ggX0_reachedFrom_X0_contains : GoodIn wsX0_reachedFrom wsX0_contains := goodIn_r _ [6] (by decide +kernel) (by decide +kernel)
set_option maxRecDepth 20000 in
theorem gX0_reachedFrom_X0_contains : GoodIn wsX0_reachedFrom (va_wsS RX0 167 yX0_contains wsX0_contains) := goodIn_app (goodIn_of _ (by decide +kernel)) ggX0_reachedFrom_X0_contains
theorem dX0_reachedFrom_0 : decode cX0_reachedFrom 0 = .ok (.iconst 0, 1) := by decide +kernel
theorem dX0_reachedFrom_1 : decode cX0_reachedFrom 1 = .ok (.istore_n 2, 1) := by decide +kernel
theorem dX0_reachedFrom_2 : decode cX0_reachedFrom 2 = .ok (.iconst 0, 1) := by decide +kernel
theorem dX0_reachedFrom_3 : decode cX0_reachedFrom 3 = .ok (.istore_n 3, 1) := by decide +kernel
theorem dX0_reachedFrom_4 : decode cX0_reachedFrom 4 = .ok (.iload_n 3, 1) := by decide +kernel
theorem dX0_reachedFrom_5 : decode cX0_reachedFrom 5 = .ok (.aload_n 0, 1) := by decide +kernel
theorem dX0_reachedFrom_6 : decode cX0_reachedFrom 6 = .ok (.getfield 46, 3) := by decide +kernel
theorem dX0_reachedFrom_9 : decode cX0_reachedFrom 9 = .ok (.if_icmp .ge 26, 3) := by decide +kernel
theorem dX0_reachedFrom_12 : decode cX0_reachedFrom 12 = .ok (.iload_n 1, 1) := by decide +kernel
theorem dX0_reachedFrom_13 : decode cX0_reachedFrom 13 = .ok (.iload_n 3, 1) := by decide +kernel
theorem dX0_reachedFrom_14 : decode cX0_reachedFrom 14 = .ok (.invokestatic 167, 3) := by decide +kernel
theorem dX0_reachedFrom_17 : decode cX0_reachedFrom 17 = .ok (.ifCond .eq 12, 3) := by decide +kernel
theorem dX0_reachedFrom_20 : decode cX0_reachedFrom 20 = .ok (.iload_n 2, 1) := by decide +kernel
theorem dX0_reachedFrom_21 : decode cX0_reachedFrom 21 = .ok (.aload_n 0, 1) := by decide +kernel
theorem dX0_reachedFrom_22 : decode cX0_reachedFrom 22 = .ok (.getfield 23, 3) := by decide +kernel
theorem dX0_reachedFrom_25 : decode cX0_reachedFrom 25 = .ok (.iload_n 3, 1) := by decide +kernel
theorem dX0_reachedFrom_26 : decode cX0_reachedFrom 26 = .ok (.iaload, 1) := by decide +kernel
theorem dX0_reachedFrom_27 : decode cX0_reachedFrom 27 = .ok (.ior, 1) := by decide +kernel
theorem dX0_reachedFrom_28 : decode cX0_reachedFrom 28 = .ok (.istore_n 2, 1) := by decide +kernel
theorem dX0_reachedFrom_29 : decode cX0_reachedFrom 29 = .ok (.iinc 3 1, 3) := by decide +kernel
theorem dX0_reachedFrom_32 : decode cX0_reachedFrom 32 = .ok (.goto (-28), 3) := by decide +kernel
theorem dX0_reachedFrom_35 : decode cX0_reachedFrom 35 = .ok (.iload_n 2, 1) := by decide +kernel
theorem dX0_reachedFrom_36 : decode cX0_reachedFrom 36 = .ok (.ireturn, 1) := by decide +kernel
set_option maxRecDepth 20000 in
theorem ggX0_excessOver_X0_reachedFrom : GoodIn wsX0_excessOver wsX0_reachedFrom := goodIn_ca (goodIn_r _ [7, 1, 8, 9, 10, 6, 11, 12, 13, 14, 15, 16, 17, 18, 19, 20, 21, 22] (by decide +kernel) (by decide +kernel)) (goodIn_sub (fun _ h => List.mem_cons_of_mem _ (List.mem_append_right _ h)) (by decide +kernel))
set_option maxRecDepth 20000 in
theorem gX0_excessOver_X0_reachedFrom : GoodIn wsX0_excessOver (wsV RX0 171 RX0 yX0_reachedFrom wsX0_reachedFrom) := goodIn_app (goodIn_of _ (by decide +kernel)) ggX0_excessOver_X0_reachedFrom
set_option maxRecDepth 20000 in
theorem ggX0_excessOver_X0_contains : GoodIn wsX0_excessOver wsX0_contains := goodIn_r _ [11] (by decide +kernel) (by decide +kernel)
set_option maxRecDepth 20000 in
theorem gX0_excessOver_X0_contains : GoodIn wsX0_excessOver (va_wsS RX0 167 yX0_contains wsX0_contains) := goodIn_app (goodIn_of _ (by decide +kernel)) ggX0_excessOver_X0_contains
theorem dX0_excessOver_0 : decode cX0_excessOver 0 = .ok (.aload_n 0, 1) := by decide +kernel
theorem dX0_excessOver_1 : decode cX0_excessOver 1 = .ok (.iload_n 1, 1) := by decide +kernel
theorem dX0_excessOver_2 : decode cX0_excessOver 2 = .ok (.invokevirtual 171, 3) := by decide +kernel
theorem dX0_excessOver_5 : decode cX0_excessOver 5 = .ok (.istore_n 3, 1) := by decide +kernel
theorem dX0_excessOver_6 : decode cX0_excessOver 6 = .ok (.iconst 0, 1) := by decide +kernel
theorem dX0_excessOver_7 : decode cX0_excessOver 7 = .ok (.istore 4, 2) := by decide +kernel
theorem dX0_excessOver_9 : decode cX0_excessOver 9 = .ok (.iconst 0, 1) := by decide +kernel
theorem dX0_excessOver_10 : decode cX0_excessOver 10 = .ok (.istore 5, 2) := by decide +kernel
theorem dX0_excessOver_12 : decode cX0_excessOver 12 = .ok (.iload 5, 2) := by decide +kernel
theorem dX0_excessOver_14 : decode cX0_excessOver 14 = .ok (.aload_n 0, 1) := by decide +kernel
theorem dX0_excessOver_15 : decode cX0_excessOver 15 = .ok (.getfield 46, 3) := by decide +kernel
theorem dX0_excessOver_18 : decode cX0_excessOver 18 = .ok (.if_icmp .ge 48, 3) := by decide +kernel
theorem dX0_excessOver_21 : decode cX0_excessOver 21 = .ok (.iload_n 1, 1) := by decide +kernel
theorem dX0_excessOver_22 : decode cX0_excessOver 22 = .ok (.iload 5, 2) := by decide +kernel
theorem dX0_excessOver_24 : decode cX0_excessOver 24 = .ok (.invokestatic 167, 3) := by decide +kernel
theorem dX0_excessOver_27 : decode cX0_excessOver 27 = .ok (.ifCond .eq 15, 3) := by decide +kernel
theorem dX0_excessOver_30 : decode cX0_excessOver 30 = .ok (.iload 4, 2) := by decide +kernel
theorem dX0_excessOver_32 : decode cX0_excessOver 32 = .ok (.aload_n 0, 1) := by decide +kernel
theorem dX0_excessOver_33 : decode cX0_excessOver 33 = .ok (.getfield 9, 3) := by decide +kernel
theorem dX0_excessOver_36 : decode cX0_excessOver 36 = .ok (.iload 5, 2) := by decide +kernel
theorem dX0_excessOver_38 : decode cX0_excessOver 38 = .ok (.iaload, 1) := by decide +kernel
theorem dX0_excessOver_39 : decode cX0_excessOver 39 = .ok (.iadd, 1) := by decide +kernel
theorem dX0_excessOver_40 : decode cX0_excessOver 40 = .ok (.istore 4, 2) := by decide +kernel
theorem dX0_excessOver_42 : decode cX0_excessOver 42 = .ok (.iload_n 3, 1) := by decide +kernel
theorem dX0_excessOver_43 : decode cX0_excessOver 43 = .ok (.iload 5, 2) := by decide +kernel
theorem dX0_excessOver_45 : decode cX0_excessOver 45 = .ok (.invokestatic 167, 3) := by decide +kernel
theorem dX0_excessOver_48 : decode cX0_excessOver 48 = .ok (.ifCond .eq 12, 3) := by decide +kernel
theorem dX0_excessOver_51 : decode cX0_excessOver 51 = .ok (.iload 4, 2) := by decide +kernel
theorem dX0_excessOver_53 : decode cX0_excessOver 53 = .ok (.aload_n 2, 1) := by decide +kernel
theorem dX0_excessOver_54 : decode cX0_excessOver 54 = .ok (.iload 5, 2) := by decide +kernel
theorem dX0_excessOver_56 : decode cX0_excessOver 56 = .ok (.iaload, 1) := by decide +kernel
theorem dX0_excessOver_57 : decode cX0_excessOver 57 = .ok (.isub, 1) := by decide +kernel
theorem dX0_excessOver_58 : decode cX0_excessOver 58 = .ok (.istore 4, 2) := by decide +kernel
theorem dX0_excessOver_60 : decode cX0_excessOver 60 = .ok (.iinc 5 1, 3) := by decide +kernel
theorem dX0_excessOver_63 : decode cX0_excessOver 63 = .ok (.goto (-51), 3) := by decide +kernel
theorem dX0_excessOver_66 : decode cX0_excessOver 66 = .ok (.iload 4, 2) := by decide +kernel
theorem dX0_excessOver_68 : decode cX0_excessOver 68 = .ok (.ireturn, 1) := by decide +kernel
set_option maxRecDepth 20000 in
theorem ggX0_fillPossibleTable_X0_isPossible : GoodIn wsX0_fillPossibleTable wsX0_isPossible := goodIn_ca (goodIn_r _ [14, 15, 16, 17, 13, 18, 8, 1, 19, 20, 21, 22, 7, 23, 24, 25, 26, 27, 28, 29, 30, 31, 32, 33, 34, 35, 36, 37, 38, 39, 40, 41, 42, 58, 59, 60, 61, 62, 63, 64, 65, 66, 67, 68] (by decide +kernel) (by decide +kernel)) (goodIn_sub (fun _ h => List.mem_cons_of_mem _ (List.mem_append_right _ h)) (by decide +kernel))
set_option maxRecDepth 20000 in
theorem gX0_fillPossibleTable_X0_isPossible : GoodIn wsX0_fillPossibleTable (wsV RX0 175 RX0 yX0_isPossible wsX0_isPossible) := goodIn_app (goodIn_of _ (by decide +kernel)) ggX0_fillPossibleTable_X0_isPossible
set_option maxRecDepth 20000 in
theorem ggX0_fillPossibleTable_X0_greatestPossible : GoodIn wsX0_fillPossibleTable wsX0_greatestPossible := goodIn_ca (goodIn_r _ [46, 2, 47, 48, 49, 50, 51, 52, 53, 13, 54, 39, 40, 41, 42, 27, 28, 29, 30, 7, 35, 36, 37, 38, 31, 32, 33, 34, 8, 58, 59, 60, 61, 62, 63, 64, 65, 66, 67, 68] (by decide +kernel) (by decide +kernel)) (goodIn_sub (fun _ h => List.mem_cons_of_mem _ (List.mem_append_right _ h)) (by decide +kernel))
set_option maxRecDepth 20000 in
theorem gX0_fillPossibleTable_X0_greatestPossible : GoodIn wsX0_fillPossibleTable (wsV RX0 185 RX0 yX0_greatestPossible wsX0_greatestPossible) := goodIn_app (goodIn_of _ (by decide +kernel)) ggX0_fillPossibleTable_X0_greatestPossible
set_option maxRecDepth 20000 in
theorem ggX0_fillPossibleTable_X0_turn : GoodIn wsX0_fillPossibleTable wsX0_turn := goodIn_r _ [57] (by decide +kernel) (by decide +kernel)
set_option maxRecDepth 20000 in
theorem gX0_fillPossibleTable_X0_turn : GoodIn wsX0_fillPossibleTable (va_wsS RX0 57 yX0_turn wsX0_turn) := goodIn_app (goodIn_of _ (by decide +kernel)) ggX0_fillPossibleTable_X0_turn
theorem dX0_fillPossibleTable_0 : decode cX0_fillPossibleTable 0 = .ok (.aload_n 0, 1) := by decide +kernel
theorem dX0_fillPossibleTable_1 : decode cX0_fillPossibleTable 1 = .ok (.invokevirtual 175, 3) := by decide +kernel
theorem dX0_fillPossibleTable_4 : decode cX0_fillPossibleTable 4 = .ok (.istore_n 1, 1) := by decide +kernel
theorem dX0_fillPossibleTable_5 : decode cX0_fillPossibleTable 5 = .ok (.aload_n 0, 1) := by decide +kernel
theorem dX0_fillPossibleTable_6 : decode cX0_fillPossibleTable 6 = .ok (.getfield 13, 3) := by decide +kernel
theorem dX0_fillPossibleTable_9 : decode cX0_fillPossibleTable 9 = .ok (.iconst 0, 1) := by decide +kernel
theorem dX0_fillPossibleTable_10 : decode cX0_fillPossibleTable 10 = .ok (.aload_n 0, 1) := by decide +kernel
theorem dX0_fillPossibleTable_11 : decode cX0_fillPossibleTable 11 = .ok (.getfield 32, 3) := by decide +kernel
theorem dX0_fillPossibleTable_14 : decode cX0_fillPossibleTable 14 = .ok (.iconst 0, 1) := by decide +kernel
theorem dX0_fillPossibleTable_15 : decode cX0_fillPossibleTable 15 = .ok (.bipush 6, 2) := by decide +kernel
theorem dX0_fillPossibleTable_17 : decode cX0_fillPossibleTable 17 = .ok (.invokestatic 179, 3) := by decide +kernel
theorem dX0_fillPossibleTable_20 : decode cX0_fillPossibleTable 20 = .ok (.iconst 0, 1) := by decide +kernel
theorem dX0_fillPossibleTable_21 : decode cX0_fillPossibleTable 21 = .ok (.istore_n 2, 1) := by decide +kernel
theorem dX0_fillPossibleTable_22 : decode cX0_fillPossibleTable 22 = .ok (.iload_n 2, 1) := by decide +kernel
theorem dX0_fillPossibleTable_23 : decode cX0_fillPossibleTable 23 = .ok (.aload_n 0, 1) := by decide +kernel
theorem dX0_fillPossibleTable_24 : decode cX0_fillPossibleTable 24 = .ok (.getfield 46, 3) := by decide +kernel
theorem dX0_fillPossibleTable_27 : decode cX0_fillPossibleTable 27 = .ok (.if_icmp .ge 86, 3) := by decide +kernel
theorem dX0_fillPossibleTable_30 : decode cX0_fillPossibleTable 30 = .ok (.aload_n 0, 1) := by decide +kernel
theorem dX0_fillPossibleTable_31 : decode cX0_fillPossibleTable 31 = .ok (.getfield 9, 3) := by decide +kernel
theorem dX0_fillPossibleTable_34 : decode cX0_fillPossibleTable 34 = .ok (.iload_n 2, 1) := by decide +kernel
theorem dX0_fillPossibleTable_35 : decode cX0_fillPossibleTable 35 = .ok (.iaload, 1) := by decide +kernel
theorem dX0_fillPossibleTable_36 : decode cX0_fillPossibleTable 36 = .ok (.istore_n 3, 1) := by decide +kernel
theorem dX0_fillPossibleTable_37 : decode cX0_fillPossibleTable 37 = .ok (.iconst 0, 1) := by decide +kernel
theorem dX0_fillPossibleTable_38 : decode cX0_fillPossibleTable 38 = .ok (.istore 4, 2) := by decide +kernel
theorem dX0_fillPossibleTable_40 : decode cX0_fillPossibleTable 40 = .ok (.iload 4, 2) := by decide +kernel
theorem dX0_fillPossibleTable_42 : decode cX0_fillPossibleTable 42 = .ok (.aload_n 0, 1) := by decide +kernel
theorem dX0_fillPossibleTable_43 : decode cX0_fillPossibleTable 43 = .ok (.getfield 46, 3) := by decide +kernel
theorem dX0_fillPossibleTable_46 : decode cX0_fillPossibleTable 46 = .ok (.if_icmp .ge 61, 3) := by decide +kernel
theorem dX0_fillPossibleTable_49 : decode cX0_fillPossibleTable 49 = .ok (.iload_n 1, 1) := by decide +kernel
theorem dX0_fillPossibleTable_50 : decode cX0_fillPossibleTable 50 = .ok (.ifCond .eq 14, 3) := by decide +kernel
theorem dX0_fillPossibleTable_53 : decode cX0_fillPossibleTable 53 = .ok (.aload_n 0, 1) := by decide +kernel
theorem dX0_fillPossibleTable_54 : decode cX0_fillPossibleTable 54 = .ok (.iload_n 2, 1) := by decide +kernel
theorem dX0_fillPossibleTable_55 : decode cX0_fillPossibleTable 55 = .ok (.iload 4, 2) := by decide +kernel
theorem dX0_fillPossibleTable_57 : decode cX0_fillPossibleTable 57 = .ok (.iload_n 3, 1) := by decide +kernel
theorem dX0_fillPossibleTable_58 : decode cX0_fillPossibleTable 58 = .ok (.invokevirtual 185, 3) := by decide +kernel
theorem dX0_fillPossibleTable_61 : decode cX0_fillPossibleTable 61 = .ok (.goto 4, 3) := by decide +kernel
theorem dX0_fillPossibleTable_64 : decode cX0_fillPossibleTable 64 = .ok (.iconst (-1), 1) := by decide +kernel
theorem dX0_fillPossibleTable_65 : decode cX0_fillPossibleTable 65 = .ok (.istore 5, 2) := by decide +kernel
theorem dX0_fillPossibleTable_67 : decode cX0_fillPossibleTable 67 = .ok (.aload_n 0, 1) := by decide +kernel
theorem dX0_fillPossibleTable_68 : decode cX0_fillPossibleTable 68 = .ok (.getfield 29, 3) := by decide +kernel
theorem dX0_fillPossibleTable_71 : decode cX0_fillPossibleTable 71 = .ok (.iload_n 2, 1) := by decide +kernel
theorem dX0_fillPossibleTable_72 : decode cX0_fillPossibleTable 72 = .ok (.iload 4, 2) := by decide +kernel
theorem dX0_fillPossibleTable_74 : decode cX0_fillPossibleTable 74 = .ok (.invokestatic 57, 3) := by decide +kernel
theorem dX0_fillPossibleTable_77 : decode cX0_fillPossibleTable 77 = .ok (.iload 5, 2) := by decide +kernel
theorem dX0_fillPossibleTable_79 : decode cX0_fillPossibleTable 79 = .ok (.iastore, 1) := by decide +kernel
theorem dX0_fillPossibleTable_80 : decode cX0_fillPossibleTable 80 = .ok (.iload_n 1, 1) := by decide +kernel
theorem dX0_fillPossibleTable_81 : decode cX0_fillPossibleTable 81 = .ok (.ifCond .eq 20, 3) := by decide +kernel
theorem dX0_fillPossibleTable_84 : decode cX0_fillPossibleTable 84 = .ok (.iload_n 3, 1) := by decide +kernel
theorem dX0_fillPossibleTable_85 : decode cX0_fillPossibleTable 85 = .ok (.iload 5, 2) := by decide +kernel
theorem dX0_fillPossibleTable_87 : decode cX0_fillPossibleTable 87 = .ok (.isub, 1) := by decide +kernel
theorem dX0_fillPossibleTable_88 : decode cX0_fillPossibleTable 88 = .ok (.istore_n 3, 1) := by decide +kernel
theorem dX0_fillPossibleTable_89 : decode cX0_fillPossibleTable 89 = .ok (.aload_n 0, 1) := by decide +kernel
theorem dX0_fillPossibleTable_90 : decode cX0_fillPossibleTable 90 = .ok (.getfield 32, 3) := by decide +kernel
theorem dX0_fillPossibleTable_93 : decode cX0_fillPossibleTable 93 = .ok (.iload 4, 2) := by decide +kernel
theorem dX0_fillPossibleTable_95 : decode cX0_fillPossibleTable 95 = .ok (.dup2, 1) := by decide +kernel
theorem dX0_fillPossibleTable_96 : decode cX0_fillPossibleTable 96 = .ok (.iaload, 1) := by decide +kernel
theorem dX0_fillPossibleTable_97 : decode cX0_fillPossibleTable 97 = .ok (.iload 5, 2) := by decide +kernel
theorem dX0_fillPossibleTable_99 : decode cX0_fillPossibleTable 99 = .ok (.isub, 1) := by decide +kernel
theorem dX0_fillPossibleTable_100 : decode cX0_fillPossibleTable 100 = .ok (.iastore, 1) := by decide +kernel
theorem dX0_fillPossibleTable_101 : decode cX0_fillPossibleTable 101 = .ok (.iinc 4 1, 3) := by decide +kernel
theorem dX0_fillPossibleTable_104 : decode cX0_fillPossibleTable 104 = .ok (.goto (-64), 3) := by decide +kernel
theorem dX0_fillPossibleTable_107 : decode cX0_fillPossibleTable 107 = .ok (.iinc 2 1, 3) := by decide +kernel
theorem dX0_fillPossibleTable_110 : decode cX0_fillPossibleTable 110 = .ok (.goto (-88), 3) := by decide +kernel
theorem dX0_fillPossibleTable_113 : decode cX0_fillPossibleTable 113 = .ok (.return_, 1) := by decide +kernel
set_option maxRecDepth 20000 in
theorem ggX0_greatestPossible_X0_isOpen : GoodIn wsX0_greatestPossible wsX0_isOpen := goodIn_ca (goodIn_r _ [10, 11, 12, 13, 9, 14, 29, 30, 31, 32, 33, 34, 35, 36, 37, 38, 39] (by decide +kernel) (by decide +kernel)) (goodIn_sub (fun _ h => List.mem_cons_of_mem _ (List.mem_append_right _ h)) (by decide +kernel))
set_option maxRecDepth 20000 in
theorem gX0_greatestPossible_X0_isOpen : GoodIn wsX0_greatestPossible (wsV RX0 189 RX0 yX0_isOpen wsX0_isOpen) := goodIn_app (goodIn_of _ (by decide +kernel)) ggX0_greatestPossible_X0_isOpen
set_option maxRecDepth 20000 in
theorem ggX0_greatestPossible_X0_allArms : GoodIn wsX0_greatestPossible wsX0_allArms := goodIn_r _ [18, 19, 29, 30, 31, 32, 33, 34, 35, 36, 37, 38, 39] (by decide +kernel) (by decide +kernel)
set_option maxRecDepth 20000 in
theorem gX0_greatestPossible_X0_allArms : GoodIn wsX0_greatestPossible (wsV RX0 85 RX0 yX0_allArms wsX0_allArms) := goodIn_app (goodIn_of _ (by decide +kernel)) ggX0_greatestPossible_X0_allArms
set_option maxRecDepth 20000 in
theorem ggX0_greatestPossible_X0_reachedFrom : GoodIn wsX0_greatestPossible wsX0_reachedFrom := goodIn_ca (goodIn_r _ [23, 19, 11, 12, 13, 9, 14, 29, 30, 31, 32, 33, 34, 35, 36, 37, 38, 39] (by decide +kernel) (by decide +kernel)) (goodIn_sub (fun _ h => List.mem_cons_of_mem _ (List.mem_append_right _ h)) (by decide +kernel))
set_option maxRecDepth 20000 in
theorem gX0_greatestPossible_X0_reachedFrom : GoodIn wsX0_greatestPossible (wsV RX0 171 RX0 yX0_reachedFrom wsX0_reachedFrom) := goodIn_app (goodIn_of _ (by decide +kernel)) ggX0_greatestPossible_X0_reachedFrom
set_option maxRecDepth 20000 in
theorem ggX0_greatestPossible_X0_contains : GoodIn wsX0_greatestPossible wsX0_contains := goodIn_r _ [14] (by decide +kernel) (by decide +kernel)
set_option maxRecDepth 20000 in
theorem gX0_greatestPossible_X0_contains : GoodIn wsX0_greatestPossible (va_wsS RX0 167 yX0_contains wsX0_contains) := goodIn_app (goodIn_of _ (by decide +kernel)) ggX0_greatestPossible_X0_contains
set_option maxRecDepth 20000 in
theorem ggX0_greatestPossible_X0_excessOver : GoodIn wsX0_greatestPossible wsX0_excessOver := goodIn_ca (goodIn_r _ [27, 19, 28, 20, 21, 22, 9, 23, 11, 12, 13, 14, 29, 30, 31, 32, 33, 34, 35, 36, 37, 38, 39] (by decide +kernel) (by decide +kernel)) (goodIn_sub (fun _ h => List.mem_cons_of_mem _ (List.mem_append_right _ h)) (by decide +kernel))
set_option maxRecDepth 20000 in
theorem gX0_greatestPossible_X0_excessOver : GoodIn wsX0_greatestPossible (wsV RX0 88 RX0 yX0_excessOver wsX0_excessOver) := goodIn_app (goodIn_of _ (by decide +kernel)) ggX0_greatestPossible_X0_excessOver
theorem dX0_greatestPossible_0 : decode cX0_greatestPossible 0 = .ok (.aload_n 0, 1) := by decide +kernel
theorem dX0_greatestPossible_1 : decode cX0_greatestPossible 1 = .ok (.iload_n 1, 1) := by decide +kernel
theorem dX0_greatestPossible_2 : decode cX0_greatestPossible 2 = .ok (.iload_n 2, 1) := by decide +kernel
theorem dX0_greatestPossible_3 : decode cX0_greatestPossible 3 = .ok (.invokevirtual 189, 3) := by decide +kernel
theorem dX0_greatestPossible_6 : decode cX0_greatestPossible 6 = .ok (.ifCond .ne 5, 3) := by decide +kernel
theorem dX0_greatestPossible_9 : decode cX0_greatestPossible 9 = .ok (.iconst 0, 1) := by decide +kernel
theorem dX0_greatestPossible_10 : decode cX0_greatestPossible 10 = .ok (.ireturn, 1) := by decide +kernel
theorem dX0_greatestPossible_11 : decode cX0_greatestPossible 11 = .ok (.iload_n 3, 1) := by decide +kernel
theorem dX0_greatestPossible_12 : decode cX0_greatestPossible 12 = .ok (.aload_n 0, 1) := by decide +kernel
theorem dX0_greatestPossible_13 : decode cX0_greatestPossible 13 = .ok (.getfield 32, 3) := by decide +kernel
theorem dX0_greatestPossible_16 : decode cX0_greatestPossible 16 = .ok (.iload_n 2, 1) := by decide +kernel
theorem dX0_greatestPossible_17 : decode cX0_greatestPossible 17 = .ok (.iaload, 1) := by decide +kernel
theorem dX0_greatestPossible_18 : decode cX0_greatestPossible 18 = .ok (.invokestatic 192, 3) := by decide +kernel
theorem dX0_greatestPossible_21 : decode cX0_greatestPossible 21 = .ok (.istore 4, 2) := by decide +kernel
theorem dX0_greatestPossible_23 : decode cX0_greatestPossible 23 = .ok (.iconst 2, 1) := by decide +kernel
theorem dX0_greatestPossible_24 : decode cX0_greatestPossible 24 = .ok (.iload_n 1, 1) := by decide +kernel
theorem dX0_greatestPossible_25 : decode cX0_greatestPossible 25 = .ok (.ishl, 1) := by decide +kernel
theorem dX0_greatestPossible_26 : decode cX0_greatestPossible 26 = .ok (.istore 5, 2) := by decide +kernel
theorem dX0_greatestPossible_28 : decode cX0_greatestPossible 28 = .ok (.iload 5, 2) := by decide +kernel
theorem dX0_greatestPossible_30 : decode cX0_greatestPossible 30 = .ok (.istore 6, 2) := by decide +kernel
theorem dX0_greatestPossible_32 : decode cX0_greatestPossible 32 = .ok (.iload 6, 2) := by decide +kernel
theorem dX0_greatestPossible_34 : decode cX0_greatestPossible 34 = .ok (.aload_n 0, 1) := by decide +kernel
theorem dX0_greatestPossible_35 : decode cX0_greatestPossible 35 = .ok (.invokevirtual 85, 3) := by decide +kernel
theorem dX0_greatestPossible_38 : decode cX0_greatestPossible 38 = .ok (.if_icmp .gt 44, 3) := by decide +kernel
theorem dX0_greatestPossible_41 : decode cX0_greatestPossible 41 = .ok (.aload_n 0, 1) := by decide +kernel
theorem dX0_greatestPossible_42 : decode cX0_greatestPossible 42 = .ok (.iload 6, 2) := by decide +kernel
theorem dX0_greatestPossible_44 : decode cX0_greatestPossible 44 = .ok (.invokevirtual 171, 3) := by decide +kernel
theorem dX0_greatestPossible_47 : decode cX0_greatestPossible 47 = .ok (.iload_n 2, 1) := by decide +kernel
theorem dX0_greatestPossible_48 : decode cX0_greatestPossible 48 = .ok (.invokestatic 167, 3) := by decide +kernel
theorem dX0_greatestPossible_51 : decode cX0_greatestPossible 51 = .ok (.ifCond .eq 21, 3) := by decide +kernel
theorem dX0_greatestPossible_54 : decode cX0_greatestPossible 54 = .ok (.iload 4, 2) := by decide +kernel
theorem dX0_greatestPossible_56 : decode cX0_greatestPossible 56 = .ok (.aload_n 0, 1) := by decide +kernel
theorem dX0_greatestPossible_57 : decode cX0_greatestPossible 57 = .ok (.iload 6, 2) := by decide +kernel
theorem dX0_greatestPossible_59 : decode cX0_greatestPossible 59 = .ok (.aload_n 0, 1) := by decide +kernel
theorem dX0_greatestPossible_60 : decode cX0_greatestPossible 60 = .ok (.getfield 32, 3) := by decide +kernel
theorem dX0_greatestPossible_63 : decode cX0_greatestPossible 63 = .ok (.invokevirtual 88, 3) := by decide +kernel
theorem dX0_greatestPossible_66 : decode cX0_greatestPossible 66 = .ok (.ineg, 1) := by decide +kernel
theorem dX0_greatestPossible_67 : decode cX0_greatestPossible 67 = .ok (.invokestatic 192, 3) := by decide +kernel
theorem dX0_greatestPossible_70 : decode cX0_greatestPossible 70 = .ok (.istore 4, 2) := by decide +kernel
theorem dX0_greatestPossible_72 : decode cX0_greatestPossible 72 = .ok (.iload 6, 2) := by decide +kernel
theorem dX0_greatestPossible_74 : decode cX0_greatestPossible 74 = .ok (.iload 5, 2) := by decide +kernel
theorem dX0_greatestPossible_76 : decode cX0_greatestPossible 76 = .ok (.iadd, 1) := by decide +kernel
theorem dX0_greatestPossible_77 : decode cX0_greatestPossible 77 = .ok (.istore 6, 2) := by decide +kernel
theorem dX0_greatestPossible_79 : decode cX0_greatestPossible 79 = .ok (.goto (-47), 3) := by decide +kernel
theorem dX0_greatestPossible_82 : decode cX0_greatestPossible 82 = .ok (.iload 4, 2) := by decide +kernel
theorem dX0_greatestPossible_84 : decode cX0_greatestPossible 84 = .ok (.ireturn, 1) := by decide +kernel
set_option maxRecDepth 20000 in
theorem ggX0_resetEstimate_X0_turn : GoodIn wsX0_resetEstimate wsX0_turn := goodIn_r _ [8] (by decide +kernel) (by decide +kernel)
set_option maxRecDepth 20000 in
theorem gX0_resetEstimate_X0_turn : GoodIn wsX0_resetEstimate (va_wsS RX0 57 yX0_turn wsX0_turn) := goodIn_app (goodIn_of _ (by decide +kernel)) ggX0_resetEstimate_X0_turn
theorem dX0_resetEstimate_0 : decode cX0_resetEstimate 0 = .ok (.iconst 0, 1) := by decide +kernel
theorem dX0_resetEstimate_1 : decode cX0_resetEstimate 1 = .ok (.istore_n 1, 1) := by decide +kernel
theorem dX0_resetEstimate_2 : decode cX0_resetEstimate 2 = .ok (.iload_n 1, 1) := by decide +kernel
theorem dX0_resetEstimate_3 : decode cX0_resetEstimate 3 = .ok (.aload_n 0, 1) := by decide +kernel
theorem dX0_resetEstimate_4 : decode cX0_resetEstimate 4 = .ok (.getfield 46, 3) := by decide +kernel
theorem dX0_resetEstimate_7 : decode cX0_resetEstimate 7 = .ok (.if_icmp .ge 46, 3) := by decide +kernel
theorem dX0_resetEstimate_10 : decode cX0_resetEstimate 10 = .ok (.iconst 0, 1) := by decide +kernel
theorem dX0_resetEstimate_11 : decode cX0_resetEstimate 11 = .ok (.istore_n 2, 1) := by decide +kernel
theorem dX0_resetEstimate_12 : decode cX0_resetEstimate 12 = .ok (.iload_n 2, 1) := by decide +kernel
theorem dX0_resetEstimate_13 : decode cX0_resetEstimate 13 = .ok (.aload_n 0, 1) := by decide +kernel
theorem dX0_resetEstimate_14 : decode cX0_resetEstimate 14 = .ok (.getfield 46, 3) := by decide +kernel
theorem dX0_resetEstimate_17 : decode cX0_resetEstimate 17 = .ok (.if_icmp .ge 30, 3) := by decide +kernel
theorem dX0_resetEstimate_20 : decode cX0_resetEstimate 20 = .ok (.aload_n 0, 1) := by decide +kernel
theorem dX0_resetEstimate_21 : decode cX0_resetEstimate 21 = .ok (.getfield 19, 3) := by decide +kernel
theorem dX0_resetEstimate_24 : decode cX0_resetEstimate 24 = .ok (.iload_n 1, 1) := by decide +kernel
theorem dX0_resetEstimate_25 : decode cX0_resetEstimate 25 = .ok (.iload_n 2, 1) := by decide +kernel
theorem dX0_resetEstimate_26 : decode cX0_resetEstimate 26 = .ok (.invokestatic 57, 3) := by decide +kernel
theorem dX0_resetEstimate_29 : decode cX0_resetEstimate 29 = .ok (.aload_n 0, 1) := by decide +kernel
theorem dX0_resetEstimate_30 : decode cX0_resetEstimate 30 = .ok (.getfield 16, 3) := by decide +kernel
theorem dX0_resetEstimate_33 : decode cX0_resetEstimate 33 = .ok (.iload_n 1, 1) := by decide +kernel
theorem dX0_resetEstimate_34 : decode cX0_resetEstimate 34 = .ok (.iload_n 2, 1) := by decide +kernel
theorem dX0_resetEstimate_35 : decode cX0_resetEstimate 35 = .ok (.invokestatic 57, 3) := by decide +kernel
theorem dX0_resetEstimate_38 : decode cX0_resetEstimate 38 = .ok (.iaload, 1) := by decide +kernel
theorem dX0_resetEstimate_39 : decode cX0_resetEstimate 39 = .ok (.i2d, 1) := by decide +kernel
theorem dX0_resetEstimate_40 : decode cX0_resetEstimate 40 = .ok (.dastore, 1) := by decide +kernel
theorem dX0_resetEstimate_41 : decode cX0_resetEstimate 41 = .ok (.iinc 2 1, 3) := by decide +kernel
theorem dX0_resetEstimate_44 : decode cX0_resetEstimate 44 = .ok (.goto (-32), 3) := by decide +kernel
theorem dX0_resetEstimate_47 : decode cX0_resetEstimate 47 = .ok (.iinc 1 1, 3) := by decide +kernel
theorem dX0_resetEstimate_50 : decode cX0_resetEstimate 50 = .ok (.goto (-48), 3) := by decide +kernel
theorem dX0_resetEstimate_53 : decode cX0_resetEstimate 53 = .ok (.aload_n 0, 1) := by decide +kernel
theorem dX0_resetEstimate_54 : decode cX0_resetEstimate 54 = .ok (.iconst 0, 1) := by decide +kernel
theorem dX0_resetEstimate_55 : decode cX0_resetEstimate 55 = .ok (.putfield 95, 3) := by decide +kernel
theorem dX0_resetEstimate_58 : decode cX0_resetEstimate 58 = .ok (.return_, 1) := by decide +kernel
set_option maxRecDepth 20000 in
theorem ggX0_rowSum_X0_turn : GoodIn wsX0_rowSum wsX0_turn := goodIn_r _ [6] (by decide +kernel) (by decide +kernel)
set_option maxRecDepth 20000 in
theorem gX0_rowSum_X0_turn : GoodIn wsX0_rowSum (va_wsS RX0 57 yX0_turn wsX0_turn) := goodIn_app (goodIn_of _ (by decide +kernel)) ggX0_rowSum_X0_turn
theorem dX0_rowSum_0 : decode cX0_rowSum 0 = .ok (.dconst 0, 1) := by decide +kernel
theorem dX0_rowSum_1 : decode cX0_rowSum 1 = .ok (.dstore_n 2, 1) := by decide +kernel
theorem dX0_rowSum_2 : decode cX0_rowSum 2 = .ok (.iconst 0, 1) := by decide +kernel
theorem dX0_rowSum_3 : decode cX0_rowSum 3 = .ok (.istore 4, 2) := by decide +kernel
theorem dX0_rowSum_5 : decode cX0_rowSum 5 = .ok (.iload 4, 2) := by decide +kernel
theorem dX0_rowSum_7 : decode cX0_rowSum 7 = .ok (.aload_n 0, 1) := by decide +kernel
theorem dX0_rowSum_8 : decode cX0_rowSum 8 = .ok (.getfield 46, 3) := by decide +kernel
theorem dX0_rowSum_11 : decode cX0_rowSum 11 = .ok (.if_icmp .ge 23, 3) := by decide +kernel
theorem dX0_rowSum_14 : decode cX0_rowSum 14 = .ok (.dload_n 2, 1) := by decide +kernel
theorem dX0_rowSum_15 : decode cX0_rowSum 15 = .ok (.aload_n 0, 1) := by decide +kernel
theorem dX0_rowSum_16 : decode cX0_rowSum 16 = .ok (.getfield 19, 3) := by decide +kernel
theorem dX0_rowSum_19 : decode cX0_rowSum 19 = .ok (.iload_n 1, 1) := by decide +kernel
theorem dX0_rowSum_20 : decode cX0_rowSum 20 = .ok (.iload 4, 2) := by decide +kernel
theorem dX0_rowSum_22 : decode cX0_rowSum 22 = .ok (.invokestatic 57, 3) := by decide +kernel
theorem dX0_rowSum_25 : decode cX0_rowSum 25 = .ok (.daload, 1) := by decide +kernel
theorem dX0_rowSum_26 : decode cX0_rowSum 26 = .ok (.dadd, 1) := by decide +kernel
theorem dX0_rowSum_27 : decode cX0_rowSum 27 = .ok (.dstore_n 2, 1) := by decide +kernel
theorem dX0_rowSum_28 : decode cX0_rowSum 28 = .ok (.iinc 4 1, 3) := by decide +kernel
theorem dX0_rowSum_31 : decode cX0_rowSum 31 = .ok (.goto (-26), 3) := by decide +kernel
theorem dX0_rowSum_34 : decode cX0_rowSum 34 = .ok (.dload_n 2, 1) := by decide +kernel
theorem dX0_rowSum_35 : decode cX0_rowSum 35 = .ok (.dreturn, 1) := by decide +kernel
set_option maxRecDepth 20000 in
theorem ggX0_columnSum_X0_turn : GoodIn wsX0_columnSum wsX0_turn := goodIn_r _ [6] (by decide +kernel) (by decide +kernel)
set_option maxRecDepth 20000 in
theorem gX0_columnSum_X0_turn : GoodIn wsX0_columnSum (va_wsS RX0 57 yX0_turn wsX0_turn) := goodIn_app (goodIn_of _ (by decide +kernel)) ggX0_columnSum_X0_turn
theorem dX0_columnSum_0 : decode cX0_columnSum 0 = .ok (.dconst 0, 1) := by decide +kernel
theorem dX0_columnSum_1 : decode cX0_columnSum 1 = .ok (.dstore_n 2, 1) := by decide +kernel
theorem dX0_columnSum_2 : decode cX0_columnSum 2 = .ok (.iconst 0, 1) := by decide +kernel
theorem dX0_columnSum_3 : decode cX0_columnSum 3 = .ok (.istore 4, 2) := by decide +kernel
theorem dX0_columnSum_5 : decode cX0_columnSum 5 = .ok (.iload 4, 2) := by decide +kernel
theorem dX0_columnSum_7 : decode cX0_columnSum 7 = .ok (.aload_n 0, 1) := by decide +kernel
theorem dX0_columnSum_8 : decode cX0_columnSum 8 = .ok (.getfield 46, 3) := by decide +kernel
theorem dX0_columnSum_11 : decode cX0_columnSum 11 = .ok (.if_icmp .ge 23, 3) := by decide +kernel
theorem dX0_columnSum_14 : decode cX0_columnSum 14 = .ok (.dload_n 2, 1) := by decide +kernel
theorem dX0_columnSum_15 : decode cX0_columnSum 15 = .ok (.aload_n 0, 1) := by decide +kernel
theorem dX0_columnSum_16 : decode cX0_columnSum 16 = .ok (.getfield 19, 3) := by decide +kernel
theorem dX0_columnSum_19 : decode cX0_columnSum 19 = .ok (.iload 4, 2) := by decide +kernel
theorem dX0_columnSum_21 : decode cX0_columnSum 21 = .ok (.iload_n 1, 1) := by decide +kernel
theorem dX0_columnSum_22 : decode cX0_columnSum 22 = .ok (.invokestatic 57, 3) := by decide +kernel
theorem dX0_columnSum_25 : decode cX0_columnSum 25 = .ok (.daload, 1) := by decide +kernel
theorem dX0_columnSum_26 : decode cX0_columnSum 26 = .ok (.dadd, 1) := by decide +kernel
theorem dX0_columnSum_27 : decode cX0_columnSum 27 = .ok (.dstore_n 2, 1) := by decide +kernel
theorem dX0_columnSum_28 : decode cX0_columnSum 28 = .ok (.iinc 4 1, 3) := by decide +kernel
theorem dX0_columnSum_31 : decode cX0_columnSum 31 = .ok (.goto (-26), 3) := by decide +kernel
theorem dX0_columnSum_34 : decode cX0_columnSum 34 = .ok (.dload_n 2, 1) := by decide +kernel
theorem dX0_columnSum_35 : decode cX0_columnSum 35 = .ok (.dreturn, 1) := by decide +kernel
set_option maxRecDepth 20000 in
theorem ggX0_carryOutRound_X0_carryOutRowStep : GoodIn wsX0_carryOutRound wsX0_carryOutRowStep := goodIn_ca (goodIn_r _ [7, 8, 1, 9, 10, 11, 12, 6, 13, 14, 15, 16, 26, 27, 28, 29, 30, 31, 32, 33, 34, 35, 36] (by decide +kernel) (by decide +kernel)) (goodIn_sub (fun _ h => List.mem_cons_of_mem _ (List.mem_append_right _ h)) (by decide +kernel))
set_option maxRecDepth 20000 in
theorem gX0_carryOutRound_X0_carryOutRowStep : GoodIn wsX0_carryOutRound (wsV RX0 197 RX0 yX0_carryOutRowStep wsX0_carryOutRowStep) := goodIn_app (goodIn_of _ (by decide +kernel)) ggX0_carryOutRound_X0_carryOutRowStep
set_option maxRecDepth 20000 in
theorem ggX0_carryOutRound_X0_carryOutColumnStep : GoodIn wsX0_carryOutRound wsX0_carryOutColumnStep := goodIn_ca (goodIn_r _ [20, 21, 1, 9, 22, 23, 24, 6, 25, 14, 15, 16, 26, 27, 28, 29, 30, 31, 32, 33, 34, 35, 36] (by decide +kernel) (by decide +kernel)) (goodIn_sub (fun _ h => List.mem_cons_of_mem _ (List.mem_append_right _ h)) (by decide +kernel))
set_option maxRecDepth 20000 in
theorem gX0_carryOutRound_X0_carryOutColumnStep : GoodIn wsX0_carryOutRound (wsV RX0 200 RX0 yX0_carryOutColumnStep wsX0_carryOutColumnStep) := goodIn_app (goodIn_of _ (by decide +kernel)) ggX0_carryOutRound_X0_carryOutColumnStep
theorem dX0_carryOutRound_0 : decode cX0_carryOutRound 0 = .ok (.iconst 0, 1) := by decide +kernel
theorem dX0_carryOutRound_1 : decode cX0_carryOutRound 1 = .ok (.istore_n 1, 1) := by decide +kernel
theorem dX0_carryOutRound_2 : decode cX0_carryOutRound 2 = .ok (.iload_n 1, 1) := by decide +kernel
theorem dX0_carryOutRound_3 : decode cX0_carryOutRound 3 = .ok (.aload_n 0, 1) := by decide +kernel
theorem dX0_carryOutRound_4 : decode cX0_carryOutRound 4 = .ok (.getfield 46, 3) := by decide +kernel
theorem dX0_carryOutRound_7 : decode cX0_carryOutRound 7 = .ok (.if_icmp .ge 14, 3) := by decide +kernel
theorem dX0_carryOutRound_10 : decode cX0_carryOutRound 10 = .ok (.aload_n 0, 1) := by decide +kernel
theorem dX0_carryOutRound_11 : decode cX0_carryOutRound 11 = .ok (.iload_n 1, 1) := by decide +kernel
theorem dX0_carryOutRound_12 : decode cX0_carryOutRound 12 = .ok (.invokevirtual 197, 3) := by decide +kernel
theorem dX0_carryOutRound_15 : decode cX0_carryOutRound 15 = .ok (.iinc 1 1, 3) := by decide +kernel
theorem dX0_carryOutRound_18 : decode cX0_carryOutRound 18 = .ok (.goto (-16), 3) := by decide +kernel
theorem dX0_carryOutRound_21 : decode cX0_carryOutRound 21 = .ok (.iconst 0, 1) := by decide +kernel
theorem dX0_carryOutRound_22 : decode cX0_carryOutRound 22 = .ok (.istore_n 1, 1) := by decide +kernel
theorem dX0_carryOutRound_23 : decode cX0_carryOutRound 23 = .ok (.iload_n 1, 1) := by decide +kernel
theorem dX0_carryOutRound_24 : decode cX0_carryOutRound 24 = .ok (.aload_n 0, 1) := by decide +kernel
theorem dX0_carryOutRound_25 : decode cX0_carryOutRound 25 = .ok (.getfield 46, 3) := by decide +kernel
theorem dX0_carryOutRound_28 : decode cX0_carryOutRound 28 = .ok (.if_icmp .ge 14, 3) := by decide +kernel
theorem dX0_carryOutRound_31 : decode cX0_carryOutRound 31 = .ok (.aload_n 0, 1) := by decide +kernel
theorem dX0_carryOutRound_32 : decode cX0_carryOutRound 32 = .ok (.iload_n 1, 1) := by decide +kernel
theorem dX0_carryOutRound_33 : decode cX0_carryOutRound 33 = .ok (.invokevirtual 200, 3) := by decide +kernel
theorem dX0_carryOutRound_36 : decode cX0_carryOutRound 36 = .ok (.iinc 1 1, 3) := by decide +kernel
theorem dX0_carryOutRound_39 : decode cX0_carryOutRound 39 = .ok (.goto (-16), 3) := by decide +kernel
theorem dX0_carryOutRound_42 : decode cX0_carryOutRound 42 = .ok (.aload_n 0, 1) := by decide +kernel
theorem dX0_carryOutRound_43 : decode cX0_carryOutRound 43 = .ok (.dup, 1) := by decide +kernel
theorem dX0_carryOutRound_44 : decode cX0_carryOutRound 44 = .ok (.getfield 95, 3) := by decide +kernel
theorem dX0_carryOutRound_47 : decode cX0_carryOutRound 47 = .ok (.iconst 1, 1) := by decide +kernel
theorem dX0_carryOutRound_48 : decode cX0_carryOutRound 48 = .ok (.iadd, 1) := by decide +kernel
theorem dX0_carryOutRound_49 : decode cX0_carryOutRound 49 = .ok (.putfield 95, 3) := by decide +kernel
theorem dX0_carryOutRound_52 : decode cX0_carryOutRound 52 = .ok (.return_, 1) := by decide +kernel
set_option maxRecDepth 20000 in
theorem ggX0_carryOutRowStep_X0_rowSum : GoodIn wsX0_carryOutRowStep wsX0_rowSum := goodIn_ca (goodIn_r _ [8, 2, 3, 9, 10, 7, 11, 12, 13, 14, 15, 16, 17, 18, 19, 20, 21, 22] (by decide +kernel) (by decide +kernel)) (goodIn_sub (fun _ h => List.mem_cons_of_mem _ (List.mem_append_right _ h)) (by decide +kernel))
set_option maxRecDepth 20000 in
theorem gX0_carryOutRowStep_X0_rowSum : GoodIn wsX0_carryOutRowStep (wsV RX0 109 RX0 yX0_rowSum wsX0_rowSum) := goodIn_app (goodIn_of _ (by decide +kernel)) ggX0_carryOutRowStep_X0_rowSum
set_option maxRecDepth 20000 in
theorem ggX0_carryOutRowStep_X0_turn : GoodIn wsX0_carryOutRowStep wsX0_turn := goodIn_r _ [11] (by decide +kernel) (by decide +kernel)
set_option maxRecDepth 20000 in
theorem gX0_carryOutRowStep_X0_turn : GoodIn wsX0_carryOutRowStep (va_wsS RX0 57 yX0_turn wsX0_turn) := goodIn_app (goodIn_of _ (by decide +kernel)) ggX0_carryOutRowStep_X0_turn
theorem dX0_carryOutRowStep_0 : decode cX0_carryOutRowStep 0 = .ok (.aload_n 0, 1) := by decide +kernel
theorem dX0_carryOutRowStep_1 : decode cX0_carryOutRowStep 1 = .ok (.iload_n 1, 1) := by decide +kernel
theorem dX0_carryOutRowStep_2 : decode cX0_carryOutRowStep 2 = .ok (.invokevirtual 109, 3) := by decide +kernel
theorem dX0_carryOutRowStep_5 : decode cX0_carryOutRowStep 5 = .ok (.dstore_n 2, 1) := by decide +kernel
theorem dX0_carryOutRowStep_6 : decode cX0_carryOutRowStep 6 = .ok (.dload_n 2, 1) := by decide +kernel
theorem dX0_carryOutRowStep_7 : decode cX0_carryOutRowStep 7 = .ok (.dconst 0, 1) := by decide +kernel
theorem dX0_carryOutRowStep_8 : decode cX0_carryOutRowStep 8 = .ok (.dcmp .l, 1) := by decide +kernel
theorem dX0_carryOutRowStep_9 : decode cX0_carryOutRowStep 9 = .ok (.ifCond .le 48, 3) := by decide +kernel
theorem dX0_carryOutRowStep_12 : decode cX0_carryOutRowStep 12 = .ok (.aload_n 0, 1) := by decide +kernel
theorem dX0_carryOutRowStep_13 : decode cX0_carryOutRowStep 13 = .ok (.getfield 9, 3) := by decide +kernel
theorem dX0_carryOutRowStep_16 : decode cX0_carryOutRowStep 16 = .ok (.iload_n 1, 1) := by decide +kernel
theorem dX0_carryOutRowStep_17 : decode cX0_carryOutRowStep 17 = .ok (.iaload, 1) := by decide +kernel
theorem dX0_carryOutRowStep_18 : decode cX0_carryOutRowStep 18 = .ok (.i2d, 1) := by decide +kernel
theorem dX0_carryOutRowStep_19 : decode cX0_carryOutRowStep 19 = .ok (.dload_n 2, 1) := by decide +kernel
theorem dX0_carryOutRowStep_20 : decode cX0_carryOutRowStep 20 = .ok (.ddiv, 1) := by decide +kernel
theorem dX0_carryOutRowStep_21 : decode cX0_carryOutRowStep 21 = .ok (.dstore 4, 2) := by decide +kernel
theorem dX0_carryOutRowStep_23 : decode cX0_carryOutRowStep 23 = .ok (.iconst 0, 1) := by decide +kernel
theorem dX0_carryOutRowStep_24 : decode cX0_carryOutRowStep 24 = .ok (.istore 6, 2) := by decide +kernel
theorem dX0_carryOutRowStep_26 : decode cX0_carryOutRowStep 26 = .ok (.iload 6, 2) := by decide +kernel
theorem dX0_carryOutRowStep_28 : decode cX0_carryOutRowStep 28 = .ok (.aload_n 0, 1) := by decide +kernel
theorem dX0_carryOutRowStep_29 : decode cX0_carryOutRowStep 29 = .ok (.getfield 46, 3) := by decide +kernel
theorem dX0_carryOutRowStep_32 : decode cX0_carryOutRowStep 32 = .ok (.if_icmp .ge 25, 3) := by decide +kernel
theorem dX0_carryOutRowStep_35 : decode cX0_carryOutRowStep 35 = .ok (.aload_n 0, 1) := by decide +kernel
theorem dX0_carryOutRowStep_36 : decode cX0_carryOutRowStep 36 = .ok (.getfield 19, 3) := by decide +kernel
theorem dX0_carryOutRowStep_39 : decode cX0_carryOutRowStep 39 = .ok (.iload_n 1, 1) := by decide +kernel
theorem dX0_carryOutRowStep_40 : decode cX0_carryOutRowStep 40 = .ok (.iload 6, 2) := by decide +kernel
theorem dX0_carryOutRowStep_42 : decode cX0_carryOutRowStep 42 = .ok (.invokestatic 57, 3) := by decide +kernel
theorem dX0_carryOutRowStep_45 : decode cX0_carryOutRowStep 45 = .ok (.dup2, 1) := by decide +kernel
theorem dX0_carryOutRowStep_46 : decode cX0_carryOutRowStep 46 = .ok (.daload, 1) := by decide +kernel
theorem dX0_carryOutRowStep_47 : decode cX0_carryOutRowStep 47 = .ok (.dload 4, 2) := by decide +kernel
theorem dX0_carryOutRowStep_49 : decode cX0_carryOutRowStep 49 = .ok (.dmul, 1) := by decide +kernel
theorem dX0_carryOutRowStep_50 : decode cX0_carryOutRowStep 50 = .ok (.dastore, 1) := by decide +kernel
theorem dX0_carryOutRowStep_51 : decode cX0_carryOutRowStep 51 = .ok (.iinc 6 1, 3) := by decide +kernel
theorem dX0_carryOutRowStep_54 : decode cX0_carryOutRowStep 54 = .ok (.goto (-28), 3) := by decide +kernel
theorem dX0_carryOutRowStep_57 : decode cX0_carryOutRowStep 57 = .ok (.return_, 1) := by decide +kernel
set_option maxRecDepth 20000 in
theorem ggX0_carryOutColumnStep_X0_columnSum : GoodIn wsX0_carryOutColumnStep wsX0_columnSum := goodIn_ca (goodIn_r _ [8, 2, 3, 9, 10, 7, 11, 12, 13, 14, 15, 16, 17, 18, 19, 20, 21, 22] (by decide +kernel) (by decide +kernel)) (goodIn_sub (fun _ h => List.mem_cons_of_mem _ (List.mem_append_right _ h)) (by decide +kernel))
set_option maxRecDepth 20000 in
theorem gX0_carryOutColumnStep_X0_columnSum : GoodIn wsX0_carryOutColumnStep (wsV RX0 105 RX0 yX0_columnSum wsX0_columnSum) := goodIn_app (goodIn_of _ (by decide +kernel)) ggX0_carryOutColumnStep_X0_columnSum
set_option maxRecDepth 20000 in
theorem ggX0_carryOutColumnStep_X0_turn : GoodIn wsX0_carryOutColumnStep wsX0_turn := goodIn_r _ [11] (by decide +kernel) (by decide +kernel)
set_option maxRecDepth 20000 in
theorem gX0_carryOutColumnStep_X0_turn : GoodIn wsX0_carryOutColumnStep (va_wsS RX0 57 yX0_turn wsX0_turn) := goodIn_app (goodIn_of _ (by decide +kernel)) ggX0_carryOutColumnStep_X0_turn
theorem dX0_carryOutColumnStep_0 : decode cX0_carryOutColumnStep 0 = .ok (.aload_n 0, 1) := by decide +kernel
theorem dX0_carryOutColumnStep_1 : decode cX0_carryOutColumnStep 1 = .ok (.iload_n 1, 1) := by decide +kernel
theorem dX0_carryOutColumnStep_2 : decode cX0_carryOutColumnStep 2 = .ok (.invokevirtual 105, 3) := by decide +kernel
theorem dX0_carryOutColumnStep_5 : decode cX0_carryOutColumnStep 5 = .ok (.dstore_n 2, 1) := by decide +kernel
theorem dX0_carryOutColumnStep_6 : decode cX0_carryOutColumnStep 6 = .ok (.dload_n 2, 1) := by decide +kernel
theorem dX0_carryOutColumnStep_7 : decode cX0_carryOutColumnStep 7 = .ok (.dconst 0, 1) := by decide +kernel
theorem dX0_carryOutColumnStep_8 : decode cX0_carryOutColumnStep 8 = .ok (.dcmp .l, 1) := by decide +kernel
theorem dX0_carryOutColumnStep_9 : decode cX0_carryOutColumnStep 9 = .ok (.ifCond .le 48, 3) := by decide +kernel
theorem dX0_carryOutColumnStep_12 : decode cX0_carryOutColumnStep 12 = .ok (.aload_n 0, 1) := by decide +kernel
theorem dX0_carryOutColumnStep_13 : decode cX0_carryOutColumnStep 13 = .ok (.getfield 13, 3) := by decide +kernel
theorem dX0_carryOutColumnStep_16 : decode cX0_carryOutColumnStep 16 = .ok (.iload_n 1, 1) := by decide +kernel
theorem dX0_carryOutColumnStep_17 : decode cX0_carryOutColumnStep 17 = .ok (.iaload, 1) := by decide +kernel
theorem dX0_carryOutColumnStep_18 : decode cX0_carryOutColumnStep 18 = .ok (.i2d, 1) := by decide +kernel
theorem dX0_carryOutColumnStep_19 : decode cX0_carryOutColumnStep 19 = .ok (.dload_n 2, 1) := by decide +kernel
theorem dX0_carryOutColumnStep_20 : decode cX0_carryOutColumnStep 20 = .ok (.ddiv, 1) := by decide +kernel
theorem dX0_carryOutColumnStep_21 : decode cX0_carryOutColumnStep 21 = .ok (.dstore 4, 2) := by decide +kernel
theorem dX0_carryOutColumnStep_23 : decode cX0_carryOutColumnStep 23 = .ok (.iconst 0, 1) := by decide +kernel
theorem dX0_carryOutColumnStep_24 : decode cX0_carryOutColumnStep 24 = .ok (.istore 6, 2) := by decide +kernel
theorem dX0_carryOutColumnStep_26 : decode cX0_carryOutColumnStep 26 = .ok (.iload 6, 2) := by decide +kernel
theorem dX0_carryOutColumnStep_28 : decode cX0_carryOutColumnStep 28 = .ok (.aload_n 0, 1) := by decide +kernel
theorem dX0_carryOutColumnStep_29 : decode cX0_carryOutColumnStep 29 = .ok (.getfield 46, 3) := by decide +kernel
theorem dX0_carryOutColumnStep_32 : decode cX0_carryOutColumnStep 32 = .ok (.if_icmp .ge 25, 3) := by decide +kernel
theorem dX0_carryOutColumnStep_35 : decode cX0_carryOutColumnStep 35 = .ok (.aload_n 0, 1) := by decide +kernel
theorem dX0_carryOutColumnStep_36 : decode cX0_carryOutColumnStep 36 = .ok (.getfield 19, 3) := by decide +kernel
theorem dX0_carryOutColumnStep_39 : decode cX0_carryOutColumnStep 39 = .ok (.iload 6, 2) := by decide +kernel
theorem dX0_carryOutColumnStep_41 : decode cX0_carryOutColumnStep 41 = .ok (.iload_n 1, 1) := by decide +kernel
theorem dX0_carryOutColumnStep_42 : decode cX0_carryOutColumnStep 42 = .ok (.invokestatic 57, 3) := by decide +kernel
theorem dX0_carryOutColumnStep_45 : decode cX0_carryOutColumnStep 45 = .ok (.dup2, 1) := by decide +kernel
theorem dX0_carryOutColumnStep_46 : decode cX0_carryOutColumnStep 46 = .ok (.daload, 1) := by decide +kernel
theorem dX0_carryOutColumnStep_47 : decode cX0_carryOutColumnStep 47 = .ok (.dload 4, 2) := by decide +kernel
theorem dX0_carryOutColumnStep_49 : decode cX0_carryOutColumnStep 49 = .ok (.dmul, 1) := by decide +kernel
theorem dX0_carryOutColumnStep_50 : decode cX0_carryOutColumnStep 50 = .ok (.dastore, 1) := by decide +kernel
theorem dX0_carryOutColumnStep_51 : decode cX0_carryOutColumnStep 51 = .ok (.iinc 6 1, 3) := by decide +kernel
theorem dX0_carryOutColumnStep_54 : decode cX0_carryOutColumnStep 54 = .ok (.goto (-28), 3) := by decide +kernel
theorem dX0_carryOutColumnStep_57 : decode cX0_carryOutColumnStep 57 = .ok (.return_, 1) := by decide +kernel
theorem dX0_distance_0 : decode cX0_distance 0 = .ok (.dload_n 0, 1) := by decide +kernel
theorem dX0_distance_1 : decode cX0_distance 1 = .ok (.dload_n 2, 1) := by decide +kernel
theorem dX0_distance_2 : decode cX0_distance 2 = .ok (.dsub, 1) := by decide +kernel
theorem dX0_distance_3 : decode cX0_distance 3 = .ok (.dstore 4, 2) := by decide +kernel
theorem dX0_distance_5 : decode cX0_distance 5 = .ok (.dload 4, 2) := by decide +kernel
theorem dX0_distance_7 : decode cX0_distance 7 = .ok (.dconst 0, 1) := by decide +kernel
theorem dX0_distance_8 : decode cX0_distance 8 = .ok (.dcmp .g, 1) := by decide +kernel
theorem dX0_distance_9 : decode cX0_distance 9 = .ok (.ifCond .ge 9, 3) := by decide +kernel
theorem dX0_distance_12 : decode cX0_distance 12 = .ok (.dload 4, 2) := by decide +kernel
theorem dX0_distance_14 : decode cX0_distance 14 = .ok (.dneg, 1) := by decide +kernel
theorem dX0_distance_15 : decode cX0_distance 15 = .ok (.goto 5, 3) := by decide +kernel
theorem dX0_distance_18 : decode cX0_distance 18 = .ok (.dload 4, 2) := by decide +kernel
theorem dX0_distance_20 : decode cX0_distance 20 = .ok (.dreturn, 1) := by decide +kernel
set_option maxRecDepth 20000 in
theorem ggX0_roundAllRows_X0_roundRow : GoodIn wsX0_roundAllRows wsX0_roundRow := goodIn_ca (goodIn_r _ [6, 1, 7, 8, 9, 10, 11, 12, 13, 5, 14, 15, 16, 17, 18, 19, 20, 21, 22, 23, 24, 25, 26, 27, 28, 29, 30, 31, 32, 33, 34, 35, 36, 37, 38, 39, 40, 41, 42, 43, 44, 45, 46, 47, 48, 49] (by decide +kernel) (by decide +kernel)) (goodIn_sub (fun _ h => List.mem_cons_of_mem _ (List.mem_append_right _ h)) (by decide +kernel))
set_option maxRecDepth 20000 in
theorem gX0_roundAllRows_X0_roundRow : GoodIn wsX0_roundAllRows (wsV RX0 123 RX0 yX0_roundRow wsX0_roundRow) := goodIn_app (goodIn_of _ (by decide +kernel)) ggX0_roundAllRows_X0_roundRow
theorem dX0_roundAllRows_0 : decode cX0_roundAllRows 0 = .ok (.iconst 0, 1) := by decide +kernel
theorem dX0_roundAllRows_1 : decode cX0_roundAllRows 1 = .ok (.istore_n 1, 1) := by decide +kernel
theorem dX0_roundAllRows_2 : decode cX0_roundAllRows 2 = .ok (.iload_n 1, 1) := by decide +kernel
theorem dX0_roundAllRows_3 : decode cX0_roundAllRows 3 = .ok (.aload_n 0, 1) := by decide +kernel
theorem dX0_roundAllRows_4 : decode cX0_roundAllRows 4 = .ok (.getfield 46, 3) := by decide +kernel
theorem dX0_roundAllRows_7 : decode cX0_roundAllRows 7 = .ok (.if_icmp .ge 14, 3) := by decide +kernel
theorem dX0_roundAllRows_10 : decode cX0_roundAllRows 10 = .ok (.aload_n 0, 1) := by decide +kernel
theorem dX0_roundAllRows_11 : decode cX0_roundAllRows 11 = .ok (.iload_n 1, 1) := by decide +kernel
theorem dX0_roundAllRows_12 : decode cX0_roundAllRows 12 = .ok (.invokevirtual 123, 3) := by decide +kernel
theorem dX0_roundAllRows_15 : decode cX0_roundAllRows 15 = .ok (.iinc 1 1, 3) := by decide +kernel
theorem dX0_roundAllRows_18 : decode cX0_roundAllRows 18 = .ok (.goto (-16), 3) := by decide +kernel
theorem dX0_roundAllRows_21 : decode cX0_roundAllRows 21 = .ok (.return_, 1) := by decide +kernel
set_option maxRecDepth 20000 in
theorem ggX0_roundRow_X0_rowSum : GoodIn wsX0_roundRow wsX0_rowSum := goodIn_ca (goodIn_r _ [10, 1, 2, 11, 12, 9, 13, 35, 36, 37, 38, 39, 40, 41, 42, 43, 44, 45] (by decide +kernel) (by decide +kernel)) (goodIn_sub (fun _ h => List.mem_cons_of_mem _ (List.mem_append_right _ h)) (by decide +kernel))
set_option maxRecDepth 20000 in
theorem gX0_roundRow_X0_rowSum : GoodIn wsX0_roundRow (wsV RX0 109 RX0 yX0_rowSum wsX0_rowSum) := goodIn_app (goodIn_of _ (by decide +kernel)) ggX0_roundRow_X0_rowSum
set_option maxRecDepth 20000 in
theorem ggX0_roundRow_X0_turn : GoodIn wsX0_roundRow wsX0_turn := goodIn_r _ [13] (by decide +kernel) (by decide +kernel)
set_option maxRecDepth 20000 in
theorem gX0_roundRow_X0_turn : GoodIn wsX0_roundRow (va_wsS RX0 57 yX0_turn wsX0_turn) := goodIn_app (goodIn_of _ (by decide +kernel)) ggX0_roundRow_X0_turn
set_option maxRecDepth 20000 in
theorem ggX0_roundRow_X0_raiseGreatestFractions : GoodIn wsX0_roundRow wsX0_raiseGreatestFractions := goodIn_ca (goodIn_r _ [17, 1, 18, 19, 20, 21, 4, 5, 22, 23, 24, 25, 9, 26, 27, 28, 29, 30, 31, 32, 33, 34, 11, 12, 13, 35, 36, 37, 38, 39, 40, 41, 42, 43, 44, 45] (by decide +kernel) (by decide +kernel)) (goodIn_sub (fun _ h => List.mem_cons_of_mem _ (List.mem_append_right _ h)) (by decide +kernel))
set_option maxRecDepth 20000 in
theorem gX0_roundRow_X0_raiseGreatestFractions : GoodIn wsX0_roundRow (wsV RX0 203 RX0 yX0_raiseGreatestFractions wsX0_raiseGreatestFractions) := goodIn_app (goodIn_of _ (by decide +kernel)) ggX0_roundRow_X0_raiseGreatestFractions
theorem dX0_roundRow_0 : decode cX0_roundRow 0 = .ok (.aload_n 0, 1) := by decide +kernel
theorem dX0_roundRow_1 : decode cX0_roundRow 1 = .ok (.iload_n 1, 1) := by decide +kernel
theorem dX0_roundRow_2 : decode cX0_roundRow 2 = .ok (.invokevirtual 109, 3) := by decide +kernel
theorem dX0_roundRow_5 : decode cX0_roundRow 5 = .ok (.dstore_n 2, 1) := by decide +kernel
theorem dX0_roundRow_6 : decode cX0_roundRow 6 = .ok (.iconst 0, 1) := by decide +kernel
theorem dX0_roundRow_7 : decode cX0_roundRow 7 = .ok (.istore 4, 2) := by decide +kernel
theorem dX0_roundRow_9 : decode cX0_roundRow 9 = .ok (.iconst 0, 1) := by decide +kernel
theorem dX0_roundRow_10 : decode cX0_roundRow 10 = .ok (.istore 5, 2) := by decide +kernel
theorem dX0_roundRow_12 : decode cX0_roundRow 12 = .ok (.iload 5, 2) := by decide +kernel
theorem dX0_roundRow_14 : decode cX0_roundRow 14 = .ok (.aload_n 0, 1) := by decide +kernel
theorem dX0_roundRow_15 : decode cX0_roundRow 15 = .ok (.getfield 46, 3) := by decide +kernel
theorem dX0_roundRow_18 : decode cX0_roundRow 18 = .ok (.if_icmp .ge 80, 3) := by decide +kernel
theorem dX0_roundRow_21 : decode cX0_roundRow 21 = .ok (.dload_n 2, 1) := by decide +kernel
theorem dX0_roundRow_22 : decode cX0_roundRow 22 = .ok (.dconst 0, 1) := by decide +kernel
theorem dX0_roundRow_23 : decode cX0_roundRow 23 = .ok (.dcmp .l, 1) := by decide +kernel
theorem dX0_roundRow_24 : decode cX0_roundRow 24 = .ok (.ifCond .le 27, 3) := by decide +kernel
theorem dX0_roundRow_27 : decode cX0_roundRow 27 = .ok (.aload_n 0, 1) := by decide +kernel
theorem dX0_roundRow_28 : decode cX0_roundRow 28 = .ok (.getfield 19, 3) := by decide +kernel
theorem dX0_roundRow_31 : decode cX0_roundRow 31 = .ok (.iload_n 1, 1) := by decide +kernel
theorem dX0_roundRow_32 : decode cX0_roundRow 32 = .ok (.iload 5, 2) := by decide +kernel
theorem dX0_roundRow_34 : decode cX0_roundRow 34 = .ok (.invokestatic 57, 3) := by decide +kernel
theorem dX0_roundRow_37 : decode cX0_roundRow 37 = .ok (.daload, 1) := by decide +kernel
theorem dX0_roundRow_38 : decode cX0_roundRow 38 = .ok (.aload_n 0, 1) := by decide +kernel
theorem dX0_roundRow_39 : decode cX0_roundRow 39 = .ok (.getfield 9, 3) := by decide +kernel
theorem dX0_roundRow_42 : decode cX0_roundRow 42 = .ok (.iload_n 1, 1) := by decide +kernel
theorem dX0_roundRow_43 : decode cX0_roundRow 43 = .ok (.iaload, 1) := by decide +kernel
theorem dX0_roundRow_44 : decode cX0_roundRow 44 = .ok (.i2d, 1) := by decide +kernel
theorem dX0_roundRow_45 : decode cX0_roundRow 45 = .ok (.dmul, 1) := by decide +kernel
theorem dX0_roundRow_46 : decode cX0_roundRow 46 = .ok (.dload_n 2, 1) := by decide +kernel
theorem dX0_roundRow_47 : decode cX0_roundRow 47 = .ok (.ddiv, 1) := by decide +kernel
theorem dX0_roundRow_48 : decode cX0_roundRow 48 = .ok (.goto 4, 3) := by decide +kernel
theorem dX0_roundRow_51 : decode cX0_roundRow 51 = .ok (.dconst 0, 1) := by decide +kernel
theorem dX0_roundRow_52 : decode cX0_roundRow 52 = .ok (.dstore 6, 2) := by decide +kernel
theorem dX0_roundRow_54 : decode cX0_roundRow 54 = .ok (.dload 6, 2) := by decide +kernel
theorem dX0_roundRow_56 : decode cX0_roundRow 56 = .ok (.d2i, 1) := by decide +kernel
theorem dX0_roundRow_57 : decode cX0_roundRow 57 = .ok (.istore 8, 2) := by decide +kernel
theorem dX0_roundRow_59 : decode cX0_roundRow 59 = .ok (.aload_n 0, 1) := by decide +kernel
theorem dX0_roundRow_60 : decode cX0_roundRow 60 = .ok (.getfield 26, 3) := by decide +kernel
theorem dX0_roundRow_63 : decode cX0_roundRow 63 = .ok (.iload_n 1, 1) := by decide +kernel
theorem dX0_roundRow_64 : decode cX0_roundRow 64 = .ok (.iload 5, 2) := by decide +kernel
theorem dX0_roundRow_66 : decode cX0_roundRow 66 = .ok (.invokestatic 57, 3) := by decide +kernel
theorem dX0_roundRow_69 : decode cX0_roundRow 69 = .ok (.iload 8, 2) := by decide +kernel
theorem dX0_roundRow_71 : decode cX0_roundRow 71 = .ok (.iastore, 1) := by decide +kernel
theorem dX0_roundRow_72 : decode cX0_roundRow 72 = .ok (.aload_n 0, 1) := by decide +kernel
theorem dX0_roundRow_73 : decode cX0_roundRow 73 = .ok (.getfield 35, 3) := by decide +kernel
theorem dX0_roundRow_76 : decode cX0_roundRow 76 = .ok (.iload 5, 2) := by decide +kernel
theorem dX0_roundRow_78 : decode cX0_roundRow 78 = .ok (.dload 6, 2) := by decide +kernel
theorem dX0_roundRow_80 : decode cX0_roundRow 80 = .ok (.iload 8, 2) := by decide +kernel
theorem dX0_roundRow_82 : decode cX0_roundRow 82 = .ok (.i2d, 1) := by decide +kernel
theorem dX0_roundRow_83 : decode cX0_roundRow 83 = .ok (.dsub, 1) := by decide +kernel
theorem dX0_roundRow_84 : decode cX0_roundRow 84 = .ok (.dastore, 1) := by decide +kernel
theorem dX0_roundRow_85 : decode cX0_roundRow 85 = .ok (.iload 4, 2) := by decide +kernel
theorem dX0_roundRow_87 : decode cX0_roundRow 87 = .ok (.iload 8, 2) := by decide +kernel
theorem dX0_roundRow_89 : decode cX0_roundRow 89 = .ok (.iadd, 1) := by decide +kernel
theorem dX0_roundRow_90 : decode cX0_roundRow 90 = .ok (.istore 4, 2) := by decide +kernel
theorem dX0_roundRow_92 : decode cX0_roundRow 92 = .ok (.iinc 5 1, 3) := by decide +kernel
theorem dX0_roundRow_95 : decode cX0_roundRow 95 = .ok (.goto (-83), 3) := by decide +kernel
theorem dX0_roundRow_98 : decode cX0_roundRow 98 = .ok (.dload_n 2, 1) := by decide +kernel
theorem dX0_roundRow_99 : decode cX0_roundRow 99 = .ok (.dconst 0, 1) := by decide +kernel
theorem dX0_roundRow_100 : decode cX0_roundRow 100 = .ok (.dcmp .l, 1) := by decide +kernel
theorem dX0_roundRow_101 : decode cX0_roundRow 101 = .ok (.ifCond .le 17, 3) := by decide +kernel
theorem dX0_roundRow_104 : decode cX0_roundRow 104 = .ok (.aload_n 0, 1) := by decide +kernel
theorem dX0_roundRow_105 : decode cX0_roundRow 105 = .ok (.iload_n 1, 1) := by decide +kernel
theorem dX0_roundRow_106 : decode cX0_roundRow 106 = .ok (.aload_n 0, 1) := by decide +kernel
theorem dX0_roundRow_107 : decode cX0_roundRow 107 = .ok (.getfield 9, 3) := by decide +kernel
theorem dX0_roundRow_110 : decode cX0_roundRow 110 = .ok (.iload_n 1, 1) := by decide +kernel
theorem dX0_roundRow_111 : decode cX0_roundRow 111 = .ok (.iaload, 1) := by decide +kernel
theorem dX0_roundRow_112 : decode cX0_roundRow 112 = .ok (.iload 4, 2) := by decide +kernel
theorem dX0_roundRow_114 : decode cX0_roundRow 114 = .ok (.isub, 1) := by decide +kernel
theorem dX0_roundRow_115 : decode cX0_roundRow 115 = .ok (.invokevirtual 203, 3) := by decide +kernel
theorem dX0_roundRow_118 : decode cX0_roundRow 118 = .ok (.return_, 1) := by decide +kernel
set_option maxRecDepth 20000 in
theorem ggX0_raiseGreatestFractions_X0_greatestFraction : GoodIn wsX0_raiseGreatestFractions wsX0_greatestFraction := goodIn_ca (goodIn_r _ [13, 8, 1, 7, 14, 15, 16, 12, 17, 18, 19, 20, 21, 25, 26, 27, 28, 29, 30, 31, 32, 33, 34, 35] (by decide +kernel) (by decide +kernel)) (goodIn_sub (fun _ h => List.mem_cons_of_mem _ (List.mem_append_right _ h)) (by decide +kernel))
set_option maxRecDepth 20000 in
theorem gX0_raiseGreatestFractions_X0_greatestFraction : GoodIn wsX0_raiseGreatestFractions (wsV RX0 206 RX0 yX0_greatestFraction wsX0_greatestFraction) := goodIn_app (goodIn_of _ (by decide +kernel)) ggX0_raiseGreatestFractions_X0_greatestFraction
set_option maxRecDepth 20000 in
theorem ggX0_raiseGreatestFractions_X0_turn : GoodIn wsX0_raiseGreatestFractions wsX0_turn := goodIn_r _ [24] (by decide +kernel) (by decide +kernel)
set_option maxRecDepth 20000 in
theorem gX0_raiseGreatestFractions_X0_turn : GoodIn wsX0_raiseGreatestFractions (va_wsS RX0 57 yX0_turn wsX0_turn) := goodIn_app (goodIn_of _ (by decide +kernel)) ggX0_raiseGreatestFractions_X0_turn
theorem dX0_raiseGreatestFractions_0 : decode cX0_raiseGreatestFractions 0 = .ok (.iload_n 2, 1) := by decide +kernel
theorem dX0_raiseGreatestFractions_1 : decode cX0_raiseGreatestFractions 1 = .ok (.aload_n 0, 1) := by decide +kernel
theorem dX0_raiseGreatestFractions_2 : decode cX0_raiseGreatestFractions 2 = .ok (.getfield 46, 3) := by decide +kernel
theorem dX0_raiseGreatestFractions_5 : decode cX0_raiseGreatestFractions 5 = .ok (.invokestatic 192, 3) := by decide +kernel
theorem dX0_raiseGreatestFractions_8 : decode cX0_raiseGreatestFractions 8 = .ok (.istore_n 3, 1) := by decide +kernel
theorem dX0_raiseGreatestFractions_9 : decode cX0_raiseGreatestFractions 9 = .ok (.iconst 0, 1) := by decide +kernel
theorem dX0_raiseGreatestFractions_10 : decode cX0_raiseGreatestFractions 10 = .ok (.istore 4, 2) := by decide +kernel
theorem dX0_raiseGreatestFractions_12 : decode cX0_raiseGreatestFractions 12 = .ok (.iload 4, 2) := by decide +kernel
theorem dX0_raiseGreatestFractions_14 : decode cX0_raiseGreatestFractions 14 = .ok (.iload_n 3, 1) := by decide +kernel
theorem dX0_raiseGreatestFractions_15 : decode cX0_raiseGreatestFractions 15 = .ok (.if_icmp .ge 48, 3) := by decide +kernel
theorem dX0_raiseGreatestFractions_18 : decode cX0_raiseGreatestFractions 18 = .ok (.aload_n 0, 1) := by decide +kernel
theorem dX0_raiseGreatestFractions_19 : decode cX0_raiseGreatestFractions 19 = .ok (.iload_n 1, 1) := by decide +kernel
theorem dX0_raiseGreatestFractions_20 : decode cX0_raiseGreatestFractions 20 = .ok (.invokevirtual 206, 3) := by decide +kernel
theorem dX0_raiseGreatestFractions_23 : decode cX0_raiseGreatestFractions 23 = .ok (.istore 5, 2) := by decide +kernel
theorem dX0_raiseGreatestFractions_25 : decode cX0_raiseGreatestFractions 25 = .ok (.iload 5, 2) := by decide +kernel
theorem dX0_raiseGreatestFractions_27 : decode cX0_raiseGreatestFractions 27 = .ok (.iconst (-1), 1) := by decide +kernel
theorem dX0_raiseGreatestFractions_28 : decode cX0_raiseGreatestFractions 28 = .ok (.if_icmp .ne 4, 3) := by decide +kernel
theorem dX0_raiseGreatestFractions_31 : decode cX0_raiseGreatestFractions 31 = .ok (.return_, 1) := by decide +kernel
theorem dX0_raiseGreatestFractions_32 : decode cX0_raiseGreatestFractions 32 = .ok (.aload_n 0, 1) := by decide +kernel
theorem dX0_raiseGreatestFractions_33 : decode cX0_raiseGreatestFractions 33 = .ok (.getfield 26, 3) := by decide +kernel
theorem dX0_raiseGreatestFractions_36 : decode cX0_raiseGreatestFractions 36 = .ok (.iload_n 1, 1) := by decide +kernel
theorem dX0_raiseGreatestFractions_37 : decode cX0_raiseGreatestFractions 37 = .ok (.iload 5, 2) := by decide +kernel
theorem dX0_raiseGreatestFractions_39 : decode cX0_raiseGreatestFractions 39 = .ok (.invokestatic 57, 3) := by decide +kernel
theorem dX0_raiseGreatestFractions_42 : decode cX0_raiseGreatestFractions 42 = .ok (.dup2, 1) := by decide +kernel
theorem dX0_raiseGreatestFractions_43 : decode cX0_raiseGreatestFractions 43 = .ok (.iaload, 1) := by decide +kernel
theorem dX0_raiseGreatestFractions_44 : decode cX0_raiseGreatestFractions 44 = .ok (.iconst 1, 1) := by decide +kernel
theorem dX0_raiseGreatestFractions_45 : decode cX0_raiseGreatestFractions 45 = .ok (.iadd, 1) := by decide +kernel
theorem dX0_raiseGreatestFractions_46 : decode cX0_raiseGreatestFractions 46 = .ok (.iastore, 1) := by decide +kernel
theorem dX0_raiseGreatestFractions_47 : decode cX0_raiseGreatestFractions 47 = .ok (.aload_n 0, 1) := by decide +kernel
theorem dX0_raiseGreatestFractions_48 : decode cX0_raiseGreatestFractions 48 = .ok (.getfield 35, 3) := by decide +kernel
theorem dX0_raiseGreatestFractions_51 : decode cX0_raiseGreatestFractions 51 = .ok (.iload 5, 2) := by decide +kernel
theorem dX0_raiseGreatestFractions_53 : decode cX0_raiseGreatestFractions 53 = .ok (.ldc2_w 209, 3) := by decide +kernel
theorem dX0_raiseGreatestFractions_56 : decode cX0_raiseGreatestFractions 56 = .ok (.dastore, 1) := by decide +kernel
theorem dX0_raiseGreatestFractions_57 : decode cX0_raiseGreatestFractions 57 = .ok (.iinc 4 1, 3) := by decide +kernel
theorem dX0_raiseGreatestFractions_60 : decode cX0_raiseGreatestFractions 60 = .ok (.goto (-48), 3) := by decide +kernel
theorem dX0_raiseGreatestFractions_63 : decode cX0_raiseGreatestFractions 63 = .ok (.return_, 1) := by decide +kernel
set_option maxRecDepth 20000 in
theorem ggX0_greatestFraction_X0_isOpen : GoodIn wsX0_greatestFraction wsX0_isOpen := goodIn_ca (goodIn_r _ [8, 9, 10, 11, 7, 12, 13, 14, 15, 16, 17, 18, 19, 20, 21, 22, 23] (by decide +kernel) (by decide +kernel)) (goodIn_sub (fun _ h => List.mem_cons_of_mem _ (List.mem_append_right _ h)) (by decide +kernel))
set_option maxRecDepth 20000 in
theorem gX0_greatestFraction_X0_isOpen : GoodIn wsX0_greatestFraction (wsV RX0 189 RX0 yX0_isOpen wsX0_isOpen) := goodIn_app (goodIn_of _ (by decide +kernel)) ggX0_greatestFraction_X0_isOpen
theorem dX0_greatestFraction_0 : decode cX0_greatestFraction 0 = .ok (.iconst (-1), 1) := by decide +kernel
theorem dX0_greatestFraction_1 : decode cX0_greatestFraction 1 = .ok (.istore_n 2, 1) := by decide +kernel
theorem dX0_greatestFraction_2 : decode cX0_greatestFraction 2 = .ok (.ldc2_w 209, 3) := by decide +kernel
theorem dX0_greatestFraction_5 : decode cX0_greatestFraction 5 = .ok (.dstore_n 3, 1) := by decide +kernel
theorem dX0_greatestFraction_6 : decode cX0_greatestFraction 6 = .ok (.iconst 0, 1) := by decide +kernel
theorem dX0_greatestFraction_7 : decode cX0_greatestFraction 7 = .ok (.istore 5, 2) := by decide +kernel
theorem dX0_greatestFraction_9 : decode cX0_greatestFraction 9 = .ok (.iload 5, 2) := by decide +kernel
theorem dX0_greatestFraction_11 : decode cX0_greatestFraction 11 = .ok (.aload_n 0, 1) := by decide +kernel
theorem dX0_greatestFraction_12 : decode cX0_greatestFraction 12 = .ok (.getfield 46, 3) := by decide +kernel
theorem dX0_greatestFraction_15 : decode cX0_greatestFraction 15 = .ok (.if_icmp .ge 42, 3) := by decide +kernel
theorem dX0_greatestFraction_18 : decode cX0_greatestFraction 18 = .ok (.aload_n 0, 1) := by decide +kernel
theorem dX0_greatestFraction_19 : decode cX0_greatestFraction 19 = .ok (.iload_n 1, 1) := by decide +kernel
theorem dX0_greatestFraction_20 : decode cX0_greatestFraction 20 = .ok (.iload 5, 2) := by decide +kernel
theorem dX0_greatestFraction_22 : decode cX0_greatestFraction 22 = .ok (.invokevirtual 189, 3) := by decide +kernel
theorem dX0_greatestFraction_25 : decode cX0_greatestFraction 25 = .ok (.ifCond .eq 26, 3) := by decide +kernel
theorem dX0_greatestFraction_28 : decode cX0_greatestFraction 28 = .ok (.aload_n 0, 1) := by decide +kernel
theorem dX0_greatestFraction_29 : decode cX0_greatestFraction 29 = .ok (.getfield 35, 3) := by decide +kernel
theorem dX0_greatestFraction_32 : decode cX0_greatestFraction 32 = .ok (.iload 5, 2) := by decide +kernel
theorem dX0_greatestFraction_34 : decode cX0_greatestFraction 34 = .ok (.daload, 1) := by decide +kernel
theorem dX0_greatestFraction_35 : decode cX0_greatestFraction 35 = .ok (.dload_n 3, 1) := by decide +kernel
theorem dX0_greatestFraction_36 : decode cX0_greatestFraction 36 = .ok (.dcmp .l, 1) := by decide +kernel
theorem dX0_greatestFraction_37 : decode cX0_greatestFraction 37 = .ok (.ifCond .le 14, 3) := by decide +kernel
theorem dX0_greatestFraction_40 : decode cX0_greatestFraction 40 = .ok (.aload_n 0, 1) := by decide +kernel
theorem dX0_greatestFraction_41 : decode cX0_greatestFraction 41 = .ok (.getfield 35, 3) := by decide +kernel
theorem dX0_greatestFraction_44 : decode cX0_greatestFraction 44 = .ok (.iload 5, 2) := by decide +kernel
theorem dX0_greatestFraction_46 : decode cX0_greatestFraction 46 = .ok (.daload, 1) := by decide +kernel
theorem dX0_greatestFraction_47 : decode cX0_greatestFraction 47 = .ok (.dstore_n 3, 1) := by decide +kernel
theorem dX0_greatestFraction_48 : decode cX0_greatestFraction 48 = .ok (.iload 5, 2) := by decide +kernel
theorem dX0_greatestFraction_50 : decode cX0_greatestFraction 50 = .ok (.istore_n 2, 1) := by decide +kernel
theorem dX0_greatestFraction_51 : decode cX0_greatestFraction 51 = .ok (.iinc 5 1, 3) := by decide +kernel
theorem dX0_greatestFraction_54 : decode cX0_greatestFraction 54 = .ok (.goto (-45), 3) := by decide +kernel
theorem dX0_greatestFraction_57 : decode cX0_greatestFraction 57 = .ok (.iload_n 2, 1) := by decide +kernel
theorem dX0_greatestFraction_58 : decode cX0_greatestFraction 58 = .ok (.ireturn, 1) := by decide +kernel
set_option maxRecDepth 20000 in
theorem ggX0_roundedDifference_X0_turn : GoodIn wsX0_roundedDifference wsX0_turn := goodIn_r _ [11] (by decide +kernel) (by decide +kernel)
set_option maxRecDepth 20000 in
theorem gX0_roundedDifference_X0_turn : GoodIn wsX0_roundedDifference (va_wsS RX0 57 yX0_turn wsX0_turn) := goodIn_app (goodIn_of _ (by decide +kernel)) ggX0_roundedDifference_X0_turn
theorem dX0_roundedDifference_0 : decode cX0_roundedDifference 0 = .ok (.iconst 0, 1) := by decide +kernel
theorem dX0_roundedDifference_1 : decode cX0_roundedDifference 1 = .ok (.istore_n 1, 1) := by decide +kernel
theorem dX0_roundedDifference_2 : decode cX0_roundedDifference 2 = .ok (.iconst 0, 1) := by decide +kernel
theorem dX0_roundedDifference_3 : decode cX0_roundedDifference 3 = .ok (.istore_n 2, 1) := by decide +kernel
theorem dX0_roundedDifference_4 : decode cX0_roundedDifference 4 = .ok (.iload_n 2, 1) := by decide +kernel
theorem dX0_roundedDifference_5 : decode cX0_roundedDifference 5 = .ok (.aload_n 0, 1) := by decide +kernel
theorem dX0_roundedDifference_6 : decode cX0_roundedDifference 6 = .ok (.getfield 46, 3) := by decide +kernel
theorem dX0_roundedDifference_9 : decode cX0_roundedDifference 9 = .ok (.if_icmp .ge 57, 3) := by decide +kernel
theorem dX0_roundedDifference_12 : decode cX0_roundedDifference 12 = .ok (.iconst 0, 1) := by decide +kernel
theorem dX0_roundedDifference_13 : decode cX0_roundedDifference 13 = .ok (.istore_n 3, 1) := by decide +kernel
theorem dX0_roundedDifference_14 : decode cX0_roundedDifference 14 = .ok (.iconst 0, 1) := by decide +kernel
theorem dX0_roundedDifference_15 : decode cX0_roundedDifference 15 = .ok (.istore 4, 2) := by decide +kernel
theorem dX0_roundedDifference_17 : decode cX0_roundedDifference 17 = .ok (.iload 4, 2) := by decide +kernel
theorem dX0_roundedDifference_19 : decode cX0_roundedDifference 19 = .ok (.aload_n 0, 1) := by decide +kernel
theorem dX0_roundedDifference_20 : decode cX0_roundedDifference 20 = .ok (.getfield 46, 3) := by decide +kernel
theorem dX0_roundedDifference_23 : decode cX0_roundedDifference 23 = .ok (.if_icmp .ge 23, 3) := by decide +kernel
theorem dX0_roundedDifference_26 : decode cX0_roundedDifference 26 = .ok (.iload_n 3, 1) := by decide +kernel
theorem dX0_roundedDifference_27 : decode cX0_roundedDifference 27 = .ok (.aload_n 0, 1) := by decide +kernel
theorem dX0_roundedDifference_28 : decode cX0_roundedDifference 28 = .ok (.getfield 26, 3) := by decide +kernel
theorem dX0_roundedDifference_31 : decode cX0_roundedDifference 31 = .ok (.iload 4, 2) := by decide +kernel
theorem dX0_roundedDifference_33 : decode cX0_roundedDifference 33 = .ok (.iload_n 2, 1) := by decide +kernel
theorem dX0_roundedDifference_34 : decode cX0_roundedDifference 34 = .ok (.invokestatic 57, 3) := by decide +kernel
theorem dX0_roundedDifference_37 : decode cX0_roundedDifference 37 = .ok (.iaload, 1) := by decide +kernel
theorem dX0_roundedDifference_38 : decode cX0_roundedDifference 38 = .ok (.iadd, 1) := by decide +kernel
theorem dX0_roundedDifference_39 : decode cX0_roundedDifference 39 = .ok (.istore_n 3, 1) := by decide +kernel
theorem dX0_roundedDifference_40 : decode cX0_roundedDifference 40 = .ok (.iinc 4 1, 3) := by decide +kernel
theorem dX0_roundedDifference_43 : decode cX0_roundedDifference 43 = .ok (.goto (-26), 3) := by decide +kernel
theorem dX0_roundedDifference_46 : decode cX0_roundedDifference 46 = .ok (.iload_n 1, 1) := by decide +kernel
theorem dX0_roundedDifference_47 : decode cX0_roundedDifference 47 = .ok (.iload_n 3, 1) := by decide +kernel
theorem dX0_roundedDifference_48 : decode cX0_roundedDifference 48 = .ok (.aload_n 0, 1) := by decide +kernel
theorem dX0_roundedDifference_49 : decode cX0_roundedDifference 49 = .ok (.getfield 13, 3) := by decide +kernel
theorem dX0_roundedDifference_52 : decode cX0_roundedDifference 52 = .ok (.iload_n 2, 1) := by decide +kernel
theorem dX0_roundedDifference_53 : decode cX0_roundedDifference 53 = .ok (.iaload, 1) := by decide +kernel
theorem dX0_roundedDifference_54 : decode cX0_roundedDifference 54 = .ok (.isub, 1) := by decide +kernel
theorem dX0_roundedDifference_55 : decode cX0_roundedDifference 55 = .ok (.invokestatic 211, 3) := by decide +kernel
theorem dX0_roundedDifference_58 : decode cX0_roundedDifference 58 = .ok (.iadd, 1) := by decide +kernel
theorem dX0_roundedDifference_59 : decode cX0_roundedDifference 59 = .ok (.istore_n 1, 1) := by decide +kernel
theorem dX0_roundedDifference_60 : decode cX0_roundedDifference 60 = .ok (.iinc 2 1, 3) := by decide +kernel
theorem dX0_roundedDifference_63 : decode cX0_roundedDifference 63 = .ok (.goto (-59), 3) := by decide +kernel
theorem dX0_roundedDifference_66 : decode cX0_roundedDifference 66 = .ok (.iload_n 1, 1) := by decide +kernel
theorem dX0_roundedDifference_67 : decode cX0_roundedDifference 67 = .ok (.ireturn, 1) := by decide +kernel
theorem dX0_mixed_0 : decode cX0_mixed 0 = .ok (.ldc2_w 214, 3) := by decide +kernel
theorem dX0_mixed_3 : decode cX0_mixed 3 = .ok (.lload_n 0, 1) := by decide +kernel
theorem dX0_mixed_4 : decode cX0_mixed 4 = .ok (.lmul, 1) := by decide +kernel
theorem dX0_mixed_5 : decode cX0_mixed 5 = .ok (.lload_n 2, 1) := by decide +kernel
theorem dX0_mixed_6 : decode cX0_mixed 6 = .ok (.ladd, 1) := by decide +kernel
theorem dX0_mixed_7 : decode cX0_mixed 7 = .ok (.lreturn, 1) := by decide +kernel
set_option maxRecDepth 20000 in
theorem ggX0_mixedTurn_X0_mixed : GoodIn wsX0_mixedTurn wsX0_mixed := goodIn_r _ [8, 9] (by decide +kernel) (by decide +kernel)
set_option maxRecDepth 20000 in
theorem gX0_mixedTurn_X0_mixed : GoodIn wsX0_mixedTurn (va_wsS RX0 137 yX0_mixed wsX0_mixed) := goodIn_app (goodIn_of _ (by decide +kernel)) ggX0_mixedTurn_X0_mixed
set_option maxRecDepth 20000 in
theorem ggX0_mixedTurn_X0_thousandthsOf : GoodIn wsX0_mixedTurn wsX0_thousandthsOf := goodIn_r _ [12, 13] (by decide +kernel) (by decide +kernel)
set_option maxRecDepth 20000 in
theorem gX0_mixedTurn_X0_thousandthsOf : GoodIn wsX0_mixedTurn (va_wsS RX0 145 yX0_thousandthsOf wsX0_thousandthsOf) := goodIn_app (goodIn_of _ (by decide +kernel)) ggX0_mixedTurn_X0_thousandthsOf
theorem dX0_mixedTurn_0 : decode cX0_mixedTurn 0 = .ok (.lload_n 1, 1) := by decide +kernel
theorem dX0_mixedTurn_1 : decode cX0_mixedTurn 1 = .ok (.aload_n 0, 1) := by decide +kernel
theorem dX0_mixedTurn_2 : decode cX0_mixedTurn 2 = .ok (.getfield 16, 3) := by decide +kernel
theorem dX0_mixedTurn_5 : decode cX0_mixedTurn 5 = .ok (.iload_n 3, 1) := by decide +kernel
theorem dX0_mixedTurn_6 : decode cX0_mixedTurn 6 = .ok (.iaload, 1) := by decide +kernel
theorem dX0_mixedTurn_7 : decode cX0_mixedTurn 7 = .ok (.i2l, 1) := by decide +kernel
theorem dX0_mixedTurn_8 : decode cX0_mixedTurn 8 = .ok (.invokestatic 137, 3) := by decide +kernel
theorem dX0_mixedTurn_11 : decode cX0_mixedTurn 11 = .ok (.lstore 4, 2) := by decide +kernel
theorem dX0_mixedTurn_13 : decode cX0_mixedTurn 13 = .ok (.lload 4, 2) := by decide +kernel
theorem dX0_mixedTurn_15 : decode cX0_mixedTurn 15 = .ok (.aload_n 0, 1) := by decide +kernel
theorem dX0_mixedTurn_16 : decode cX0_mixedTurn 16 = .ok (.getfield 19, 3) := by decide +kernel
theorem dX0_mixedTurn_19 : decode cX0_mixedTurn 19 = .ok (.iload_n 3, 1) := by decide +kernel
theorem dX0_mixedTurn_20 : decode cX0_mixedTurn 20 = .ok (.daload, 1) := by decide +kernel
theorem dX0_mixedTurn_21 : decode cX0_mixedTurn 21 = .ok (.invokestatic 145, 3) := by decide +kernel
theorem dX0_mixedTurn_24 : decode cX0_mixedTurn 24 = .ok (.invokestatic 137, 3) := by decide +kernel
theorem dX0_mixedTurn_27 : decode cX0_mixedTurn 27 = .ok (.lstore 4, 2) := by decide +kernel
theorem dX0_mixedTurn_29 : decode cX0_mixedTurn 29 = .ok (.lload 4, 2) := by decide +kernel
theorem dX0_mixedTurn_31 : decode cX0_mixedTurn 31 = .ok (.aload_n 0, 1) := by decide +kernel
theorem dX0_mixedTurn_32 : decode cX0_mixedTurn 32 = .ok (.getfield 26, 3) := by decide +kernel
theorem dX0_mixedTurn_35 : decode cX0_mixedTurn 35 = .ok (.iload_n 3, 1) := by decide +kernel
theorem dX0_mixedTurn_36 : decode cX0_mixedTurn 36 = .ok (.iaload, 1) := by decide +kernel
theorem dX0_mixedTurn_37 : decode cX0_mixedTurn 37 = .ok (.i2l, 1) := by decide +kernel
theorem dX0_mixedTurn_38 : decode cX0_mixedTurn 38 = .ok (.invokestatic 137, 3) := by decide +kernel
theorem dX0_mixedTurn_41 : decode cX0_mixedTurn 41 = .ok (.lstore 4, 2) := by decide +kernel
theorem dX0_mixedTurn_43 : decode cX0_mixedTurn 43 = .ok (.lload 4, 2) := by decide +kernel
theorem dX0_mixedTurn_45 : decode cX0_mixedTurn 45 = .ok (.aload_n 0, 1) := by decide +kernel
theorem dX0_mixedTurn_46 : decode cX0_mixedTurn 46 = .ok (.getfield 29, 3) := by decide +kernel
theorem dX0_mixedTurn_49 : decode cX0_mixedTurn 49 = .ok (.iload_n 3, 1) := by decide +kernel
theorem dX0_mixedTurn_50 : decode cX0_mixedTurn 50 = .ok (.iaload, 1) := by decide +kernel
theorem dX0_mixedTurn_51 : decode cX0_mixedTurn 51 = .ok (.i2l, 1) := by decide +kernel
theorem dX0_mixedTurn_52 : decode cX0_mixedTurn 52 = .ok (.invokestatic 137, 3) := by decide +kernel
theorem dX0_mixedTurn_55 : decode cX0_mixedTurn 55 = .ok (.lreturn, 1) := by decide +kernel
theorem dX0_thousandthsOf_0 : decode cX0_thousandthsOf 0 = .ok (.dload_n 0, 1) := by decide +kernel
theorem dX0_thousandthsOf_1 : decode cX0_thousandthsOf 1 = .ok (.ldc2_w 99, 3) := by decide +kernel
theorem dX0_thousandthsOf_4 : decode cX0_thousandthsOf 4 = .ok (.dmul, 1) := by decide +kernel
theorem dX0_thousandthsOf_5 : decode cX0_thousandthsOf 5 = .ok (.d2l, 1) := by decide +kernel
theorem dX0_thousandthsOf_6 : decode cX0_thousandthsOf 6 = .ok (.lreturn, 1) := by decide +kernel
