set_option maxRecDepth 20000 in
theorem ggX0_init_X0_beginJunction : GoodIn wsX0_init wsX0_beginJunction := goodIn_ca (goodIn_r _ [19, 20, 5, 6, 10, 21, 22, 23, 18, 24, 7, 25, 26, 27, 28, 29, 30, 31, 9, 32, 33, 34, 35, 36, 37, 38, 39, 40, 41, 42, 43] (by decide +kernel) (by decide +kernel)) (goodIn_sub (fun _ h => List.mem_cons_of_mem _ (List.mem_append_right _ h)) (by decide +kernel))
set_option maxRecDepth 20000 in
theorem gX0_init_X0_beginJunction : GoodIn wsX0_init (wsV RX0 38 RX0 yX0_beginJunction wsX0_beginJunction) := goodIn_app (goodIn_of _ (by decide +kernel)) ggX0_init_X0_beginJunction
theorem dX0_init_0 : decode cX0_init 0 = .ok (.aload_n 0, 1) := by decide +kernel
theorem dX0_init_1 : decode cX0_init 1 = .ok (.invokespecial 1, 3) := by decide +kernel
theorem dX0_init_4 : decode cX0_init 4 = .ok (.aload_n 0, 1) := by decide +kernel
theorem dX0_init_5 : decode cX0_init 5 = .ok (.bipush 6, 2) := by decide +kernel
theorem dX0_init_7 : decode cX0_init 7 = .ok (.newarray .int, 2) := by decide +kernel
theorem dX0_init_9 : decode cX0_init 9 = .ok (.putfield 9, 3) := by decide +kernel
theorem dX0_init_12 : decode cX0_init 12 = .ok (.aload_n 0, 1) := by decide +kernel
theorem dX0_init_13 : decode cX0_init 13 = .ok (.bipush 6, 2) := by decide +kernel
theorem dX0_init_15 : decode cX0_init 15 = .ok (.newarray .int, 2) := by decide +kernel
theorem dX0_init_17 : decode cX0_init 17 = .ok (.putfield 13, 3) := by decide +kernel
theorem dX0_init_20 : decode cX0_init 20 = .ok (.aload_n 0, 1) := by decide +kernel
theorem dX0_init_21 : decode cX0_init 21 = .ok (.bipush 36, 2) := by decide +kernel
theorem dX0_init_23 : decode cX0_init 23 = .ok (.newarray .int, 2) := by decide +kernel
theorem dX0_init_25 : decode cX0_init 25 = .ok (.putfield 16, 3) := by decide +kernel
theorem dX0_init_28 : decode cX0_init 28 = .ok (.aload_n 0, 1) := by decide +kernel
theorem dX0_init_29 : decode cX0_init 29 = .ok (.bipush 36, 2) := by decide +kernel
theorem dX0_init_31 : decode cX0_init 31 = .ok (.newarray .double, 2) := by decide +kernel
theorem dX0_init_33 : decode cX0_init 33 = .ok (.putfield 19, 3) := by decide +kernel
theorem dX0_init_36 : decode cX0_init 36 = .ok (.aload_n 0, 1) := by decide +kernel
theorem dX0_init_37 : decode cX0_init 37 = .ok (.bipush 6, 2) := by decide +kernel
theorem dX0_init_39 : decode cX0_init 39 = .ok (.newarray .int, 2) := by decide +kernel
theorem dX0_init_41 : decode cX0_init 41 = .ok (.putfield 23, 3) := by decide +kernel
theorem dX0_init_44 : decode cX0_init 44 = .ok (.aload_n 0, 1) := by decide +kernel
theorem dX0_init_45 : decode cX0_init 45 = .ok (.bipush 36, 2) := by decide +kernel
theorem dX0_init_47 : decode cX0_init 47 = .ok (.newarray .int, 2) := by decide +kernel
theorem dX0_init_49 : decode cX0_init 49 = .ok (.putfield 26, 3) := by decide +kernel
theorem dX0_init_52 : decode cX0_init 52 = .ok (.aload_n 0, 1) := by decide +kernel
theorem dX0_init_53 : decode cX0_init 53 = .ok (.bipush 36, 2) := by decide +kernel
theorem dX0_init_55 : decode cX0_init 55 = .ok (.newarray .int, 2) := by decide +kernel
theorem dX0_init_57 : decode cX0_init 57 = .ok (.putfield 29, 3) := by decide +kernel
theorem dX0_init_60 : decode cX0_init 60 = .ok (.aload_n 0, 1) := by decide +kernel
theorem dX0_init_61 : decode cX0_init 61 = .ok (.bipush 6, 2) := by decide +kernel
theorem dX0_init_63 : decode cX0_init 63 = .ok (.newarray .int, 2) := by decide +kernel
theorem dX0_init_65 : decode cX0_init 65 = .ok (.putfield 32, 3) := by decide +kernel
theorem dX0_init_68 : decode cX0_init 68 = .ok (.aload_n 0, 1) := by decide +kernel
theorem dX0_init_69 : decode cX0_init 69 = .ok (.bipush 6, 2) := by decide +kernel
theorem dX0_init_71 : decode cX0_init 71 = .ok (.newarray .double, 2) := by decide +kernel
theorem dX0_init_73 : decode cX0_init 73 = .ok (.putfield 35, 3) := by decide +kernel
theorem dX0_init_76 : decode cX0_init 76 = .ok (.aload_n 0, 1) := by decide +kernel
theorem dX0_init_77 : decode cX0_init 77 = .ok (.iconst 4, 1) := by decide +kernel
theorem dX0_init_78 : decode cX0_init 78 = .ok (.invokevirtual 38, 3) := by decide +kernel
theorem dX0_init_81 : decode cX0_init 81 = .ok (.return_, 1) := by decide +kernel
set_option maxRecDepth 20000 in
theorem ggX0_setArms_X0_requireWithin : GoodIn wsX0_setArms wsX0_requireWithin := goodIn_ca (goodIn_r _ [5, 6, 7] (by decide +kernel) (by decide +kernel)) (goodIn_sub (fun _ h => List.mem_cons_of_mem _ (List.mem_append_left _ (List.mem_append_right _ h))) (by decide +kernel))
set_option maxRecDepth 20000 in
theorem gX0_setArms_X0_requireWithin : GoodIn wsX0_setArms (va_wsS RX0 42 yX0_requireWithin wsX0_requireWithin) := goodIn_app (goodIn_of _ (by decide +kernel)) ggX0_setArms_X0_requireWithin
set_option maxRecDepth 20000 in
theorem ggX0_setArms_X0_beginJunction : GoodIn wsX0_setArms wsX0_beginJunction := goodIn_ca (goodIn_r _ [11, 1, 12, 13, 14, 15, 16, 17, 4, 18, 19, 20, 21, 22, 23, 24, 25, 26, 27, 28, 29, 30, 31, 32, 33, 34, 35, 36, 37, 38, 39] (by decide +kernel) (by decide +kernel)) (goodIn_sub (fun _ h => List.mem_cons_of_mem _ (List.mem_append_right _ h)) (by decide +kernel))
set_option maxRecDepth 20000 in
theorem gX0_setArms_X0_beginJunction : GoodIn wsX0_setArms (wsV RX0 38 RX0 yX0_beginJunction wsX0_beginJunction) := goodIn_app (goodIn_of _ (by decide +kernel)) ggX0_setArms_X0_beginJunction
theorem dX0_setArms_0 : decode cX0_setArms 0 = .ok (.iload_n 1, 1) := by decide +kernel
theorem dX0_setArms_1 : decode cX0_setArms 1 = .ok (.iconst 3, 1) := by decide +kernel
theorem dX0_setArms_2 : decode cX0_setArms 2 = .ok (.bipush 6, 2) := by decide +kernel
theorem dX0_setArms_4 : decode cX0_setArms 4 = .ok (.invokestatic 42, 3) := by decide +kernel
theorem dX0_setArms_7 : decode cX0_setArms 7 = .ok (.aload_n 0, 1) := by decide +kernel
theorem dX0_setArms_8 : decode cX0_setArms 8 = .ok (.getfield 46, 3) := by decide +kernel
theorem dX0_setArms_11 : decode cX0_setArms 11 = .ok (.istore_n 2, 1) := by decide +kernel
theorem dX0_setArms_12 : decode cX0_setArms 12 = .ok (.aload_n 0, 1) := by decide +kernel
theorem dX0_setArms_13 : decode cX0_setArms 13 = .ok (.iload_n 1, 1) := by decide +kernel
theorem dX0_setArms_14 : decode cX0_setArms 14 = .ok (.invokevirtual 38, 3) := by decide +kernel
theorem dX0_setArms_17 : decode cX0_setArms 17 = .ok (.iload_n 2, 1) := by decide +kernel
theorem dX0_setArms_18 : decode cX0_setArms 18 = .ok (.ireturn, 1) := by decide +kernel
theorem dX0_arms_0 : decode cX0_arms 0 = .ok (.aload_n 0, 1) := by decide +kernel
theorem dX0_arms_1 : decode cX0_arms 1 = .ok (.getfield 46, 3) := by decide +kernel
theorem dX0_arms_4 : decode cX0_arms 4 = .ok (.ireturn, 1) := by decide +kernel
set_option maxRecDepth 20000 in
theorem ggX0_setInflow_X0_setCount : GoodIn wsX0_setInflow wsX0_setCount := goodIn_ca (goodIn_ca (goodIn_ca (goodIn_r _ [6, 7, 8, 9, 5, 10, 11, 12, 13, 14, 15, 16, 17, 18, 19, 20, 21, 22, 23, 24, 25, 26, 27, 28, 29, 30, 31, 32, 33, 34, 35, 36, 37, 38, 39] (by decide +kernel) (by decide +kernel)) (goodIn_sub (fun _ h => List.mem_cons_of_mem _ (List.mem_append_left _ (List.mem_append_left _ (List.mem_append_right _ h)))) (by decide +kernel))) (goodIn_sub (fun _ h => List.mem_cons_of_mem _ (List.mem_append_left _ (List.mem_append_right _ h))) (by decide +kernel))) (goodIn_sub (fun _ h => List.mem_cons_of_mem _ (List.mem_append_right _ h)) (by decide +kernel))
set_option maxRecDepth 20000 in
theorem gX0_setInflow_X0_setCount : GoodIn wsX0_setInflow (wsV RX0 50 RX0 yX0_setCount wsX0_setCount) := goodIn_app (goodIn_of _ (by decide +kernel)) ggX0_setInflow_X0_setCount
theorem dX0_setInflow_0 : decode cX0_setInflow 0 = .ok (.aload_n 0, 1) := by decide +kernel
theorem dX0_setInflow_1 : decode cX0_setInflow 1 = .ok (.aload_n 0, 1) := by decide +kernel
theorem dX0_setInflow_2 : decode cX0_setInflow 2 = .ok (.getfield 9, 3) := by decide +kernel
theorem dX0_setInflow_5 : decode cX0_setInflow 5 = .ok (.iload_n 1, 1) := by decide +kernel
theorem dX0_setInflow_6 : decode cX0_setInflow 6 = .ok (.iload_n 2, 1) := by decide +kernel
theorem dX0_setInflow_7 : decode cX0_setInflow 7 = .ok (.invokevirtual 50, 3) := by decide +kernel
theorem dX0_setInflow_10 : decode cX0_setInflow 10 = .ok (.ireturn, 1) := by decide +kernel
set_option maxRecDepth 20000 in
theorem ggX0_setOutflow_X0_setCount : GoodIn wsX0_setOutflow wsX0_setCount := goodIn_ca (goodIn_ca (goodIn_ca (goodIn_r _ [6, 7, 8, 9, 5, 10, 11, 12, 13, 14, 15, 16, 17, 18, 19, 20, 21, 22, 23, 24, 25, 26, 27, 28, 29, 30, 31, 32, 33, 34, 35, 36, 37, 38, 39] (by decide +kernel) (by decide +kernel)) (goodIn_sub (fun _ h => List.mem_cons_of_mem _ (List.mem_append_left _ (List.mem_append_left _ (List.mem_append_right _ h)))) (by decide +kernel))) (goodIn_sub (fun _ h => List.mem_cons_of_mem _ (List.mem_append_left _ (List.mem_append_right _ h))) (by decide +kernel))) (goodIn_sub (fun _ h => List.mem_cons_of_mem _ (List.mem_append_right _ h)) (by decide +kernel))
set_option maxRecDepth 20000 in
theorem gX0_setOutflow_X0_setCount : GoodIn wsX0_setOutflow (wsV RX0 50 RX0 yX0_setCount wsX0_setCount) := goodIn_app (goodIn_of _ (by decide +kernel)) ggX0_setOutflow_X0_setCount
theorem dX0_setOutflow_0 : decode cX0_setOutflow 0 = .ok (.aload_n 0, 1) := by decide +kernel
theorem dX0_setOutflow_1 : decode cX0_setOutflow 1 = .ok (.aload_n 0, 1) := by decide +kernel
theorem dX0_setOutflow_2 : decode cX0_setOutflow 2 = .ok (.getfield 13, 3) := by decide +kernel
theorem dX0_setOutflow_5 : decode cX0_setOutflow 5 = .ok (.iload_n 1, 1) := by decide +kernel
theorem dX0_setOutflow_6 : decode cX0_setOutflow 6 = .ok (.iload_n 2, 1) := by decide +kernel
theorem dX0_setOutflow_7 : decode cX0_setOutflow 7 = .ok (.invokevirtual 50, 3) := by decide +kernel
theorem dX0_setOutflow_10 : decode cX0_setOutflow 10 = .ok (.ireturn, 1) := by decide +kernel
set_option maxRecDepth 20000 in
theorem ggX0_setWeight_X0_requireArm : GoodIn wsX0_setWeight wsX0_requireArm := goodIn_ca (goodIn_r _ [6, 7, 8, 9, 29, 30, 31, 32, 33, 34, 35, 36, 37, 38, 39] (by decide +kernel) (by decide +kernel)) (goodIn_sub (fun _ h => List.mem_cons_of_mem _ (List.mem_append_left _ (List.mem_append_right _ h))) (by decide +kernel))
set_option maxRecDepth 20000 in
theorem gX0_setWeight_X0_requireArm : GoodIn wsX0_setWeight (wsV RX0 54 RX0 yX0_requireArm wsX0_requireArm) := goodIn_app (goodIn_of _ (by decide +kernel)) ggX0_setWeight_X0_requireArm
set_option maxRecDepth 20000 in
theorem ggX0_setWeight_X0_requireWithin : GoodIn wsX0_setWeight wsX0_requireWithin := goodIn_ca (goodIn_r _ [12, 13, 14] (by decide +kernel) (by decide +kernel)) (goodIn_sub (fun _ h => List.mem_cons_of_mem _ (List.mem_append_right _ h)) (by decide +kernel))
set_option maxRecDepth 20000 in
theorem gX0_setWeight_X0_requireWithin : GoodIn wsX0_setWeight (va_wsS RX0 42 yX0_requireWithin wsX0_requireWithin) := goodIn_app (goodIn_of _ (by decide +kernel)) ggX0_setWeight_X0_requireWithin
set_option maxRecDepth 20000 in
theorem ggX0_setWeight_X0_turn : GoodIn wsX0_setWeight wsX0_turn := goodIn_r _ [17] (by decide +kernel) (by decide +kernel)
set_option maxRecDepth 20000 in
theorem gX0_setWeight_X0_turn : GoodIn wsX0_setWeight (va_wsS RX0 57 yX0_turn wsX0_turn) := goodIn_app (goodIn_of _ (by decide +kernel)) ggX0_setWeight_X0_turn
set_option maxRecDepth 20000 in
theorem ggX0_setWeight_X0_putWeight : GoodIn wsX0_setWeight wsX0_putWeight := goodIn_ca (goodIn_r _ [21, 1, 22, 15, 16, 5, 17, 29, 30, 31, 32, 33, 34, 35, 36, 37, 38, 39] (by decide +kernel) (by decide +kernel)) (goodIn_sub (fun _ h => List.mem_cons_of_mem _ (List.mem_append_left _ (List.mem_append_left _ (List.mem_append_right _ h)))) (by decide +kernel))
set_option maxRecDepth 20000 in
theorem gX0_setWeight_X0_putWeight : GoodIn wsX0_setWeight (wsV RX0 61 RX0 yX0_putWeight wsX0_putWeight) := goodIn_app (goodIn_of _ (by decide +kernel)) ggX0_setWeight_X0_putWeight
set_option maxRecDepth 20000 in
theorem ggX0_setWeight_X0_resetEstimate : GoodIn wsX0_setWeight wsX0_resetEstimate := goodIn_ca (goodIn_r _ [26, 9, 27, 1, 28, 15, 16, 5, 17, 29, 30, 31, 32, 33, 34, 35, 36, 37, 38, 39] (by decide +kernel) (by decide +kernel)) (goodIn_sub (fun _ h => List.mem_cons_of_mem _ (List.mem_append_left _ (List.mem_append_left _ (List.mem_append_right _ h)))) (by decide +kernel))
set_option maxRecDepth 20000 in
theorem gX0_setWeight_X0_resetEstimate : GoodIn wsX0_setWeight (wsV RX0 64 RX0 yX0_resetEstimate wsX0_resetEstimate) := goodIn_app (goodIn_of _ (by decide +kernel)) ggX0_setWeight_X0_resetEstimate
theorem dX0_setWeight_0 : decode cX0_setWeight 0 = .ok (.aload_n 0, 1) := by decide +kernel
theorem dX0_setWeight_1 : decode cX0_setWeight 1 = .ok (.iload_n 1, 1) := by decide +kernel
theorem dX0_setWeight_2 : decode cX0_setWeight 2 = .ok (.invokevirtual 54, 3) := by decide +kernel
theorem dX0_setWeight_5 : decode cX0_setWeight 5 = .ok (.aload_n 0, 1) := by decide +kernel
theorem dX0_setWeight_6 : decode cX0_setWeight 6 = .ok (.iload_n 2, 1) := by decide +kernel
theorem dX0_setWeight_7 : decode cX0_setWeight 7 = .ok (.invokevirtual 54, 3) := by decide +kernel
theorem dX0_setWeight_10 : decode cX0_setWeight 10 = .ok (.iload_n 3, 1) := by decide +kernel
theorem dX0_setWeight_11 : decode cX0_setWeight 11 = .ok (.iconst 0, 1) := by decide +kernel
theorem dX0_setWeight_12 : decode cX0_setWeight 12 = .ok (.bipush 99, 2) := by decide +kernel
theorem dX0_setWeight_14 : decode cX0_setWeight 14 = .ok (.invokestatic 42, 3) := by decide +kernel
theorem dX0_setWeight_17 : decode cX0_setWeight 17 = .ok (.aload_n 0, 1) := by decide +kernel
theorem dX0_setWeight_18 : decode cX0_setWeight 18 = .ok (.getfield 16, 3) := by decide +kernel
theorem dX0_setWeight_21 : decode cX0_setWeight 21 = .ok (.iload_n 1, 1) := by decide +kernel
theorem dX0_setWeight_22 : decode cX0_setWeight 22 = .ok (.iload_n 2, 1) := by decide +kernel
theorem dX0_setWeight_23 : decode cX0_setWeight 23 = .ok (.invokestatic 57, 3) := by decide +kernel
theorem dX0_setWeight_26 : decode cX0_setWeight 26 = .ok (.iaload, 1) := by decide +kernel
theorem dX0_setWeight_27 : decode cX0_setWeight 27 = .ok (.istore 4, 2) := by decide +kernel
theorem dX0_setWeight_29 : decode cX0_setWeight 29 = .ok (.aload_n 0, 1) := by decide +kernel
theorem dX0_setWeight_30 : decode cX0_setWeight 30 = .ok (.iload_n 1, 1) := by decide +kernel
theorem dX0_setWeight_31 : decode cX0_setWeight 31 = .ok (.iload_n 2, 1) := by decide +kernel
theorem dX0_setWeight_32 : decode cX0_setWeight 32 = .ok (.iload_n 3, 1) := by decide +kernel
theorem dX0_setWeight_33 : decode cX0_setWeight 33 = .ok (.invokevirtual 61, 3) := by decide +kernel
theorem dX0_setWeight_36 : decode cX0_setWeight 36 = .ok (.aload_n 0, 1) := by decide +kernel
theorem dX0_setWeight_37 : decode cX0_setWeight 37 = .ok (.invokevirtual 64, 3) := by decide +kernel
theorem dX0_setWeight_40 : decode cX0_setWeight 40 = .ok (.iload 4, 2) := by decide +kernel
theorem dX0_setWeight_42 : decode cX0_setWeight 42 = .ok (.ireturn, 1) := by decide +kernel
set_option maxRecDepth 20000 in
theorem ggX0_scale_X0_requireWithin : GoodIn wsX0_scale wsX0_requireWithin := goodIn_ca (goodIn_r _ [7, 8, 9] (by decide +kernel) (by decide +kernel)) (goodIn_sub (fun _ h => List.mem_cons_of_mem _ (List.mem_append_left _ (List.mem_append_right _ h))) (by decide +kernel))
set_option maxRecDepth 20000 in
theorem gX0_scale_X0_requireWithin : GoodIn wsX0_scale (va_wsS RX0 42 yX0_requireWithin wsX0_requireWithin) := goodIn_app (goodIn_of _ (by decide +kernel)) ggX0_scale_X0_requireWithin
set_option maxRecDepth 20000 in
theorem ggX0_scale_X0_requireScalable : GoodIn wsX0_scale wsX0_requireScalable := goodIn_ca (goodIn_r _ [12, 13, 14, 15, 16, 6, 17] (by decide +kernel) (by decide +kernel)) (goodIn_sub (fun _ h => List.mem_cons_of_mem _ (List.mem_append_right _ h)) (by decide +kernel))
set_option maxRecDepth 20000 in
theorem gX0_scale_X0_requireScalable : GoodIn wsX0_scale (va_wsS RX0 67 yX0_requireScalable wsX0_requireScalable) := goodIn_app (goodIn_of _ (by decide +kernel)) ggX0_scale_X0_requireScalable
set_option maxRecDepth 20000 in
theorem ggX0_scale_X0_scaled : GoodIn wsX0_scale wsX0_scaled := goodIn_r _ [17] (by decide +kernel) (by decide +kernel)
set_option maxRecDepth 20000 in
theorem gX0_scale_X0_scaled : GoodIn wsX0_scale (va_wsS RX0 71 yX0_scaled wsX0_scaled) := goodIn_app (goodIn_of _ (by decide +kernel)) ggX0_scale_X0_scaled
set_option maxRecDepth 20000 in
theorem ggX0_scale_X0_resetEstimate : GoodIn wsX0_scale wsX0_resetEstimate := goodIn_ca (goodIn_r _ [21, 1, 22, 23, 24, 25, 26, 6, 27, 32, 33, 34, 35, 36, 37, 38, 39, 40, 41, 42] (by decide +kernel) (by decide +kernel)) (goodIn_sub (fun _ h => List.mem_cons_of_mem _ (List.mem_append_left _ (List.mem_append_left _ (List.mem_append_right _ h)))) (by decide +kernel))
set_option maxRecDepth 20000 in
theorem gX0_scale_X0_resetEstimate : GoodIn wsX0_scale (wsV RX0 64 RX0 yX0_resetEstimate wsX0_resetEstimate) := goodIn_app (goodIn_of _ (by decide +kernel)) ggX0_scale_X0_resetEstimate
set_option maxRecDepth 20000 in
theorem ggX0_scale_X0_total : GoodIn wsX0_scale wsX0_total := goodIn_ca (goodIn_r _ [31, 1, 32, 33, 34, 35, 36, 37, 38, 39, 40, 41, 42] (by decide +kernel) (by decide +kernel)) (goodIn_sub (fun _ h => List.mem_cons_of_mem _ (List.mem_append_left _ (List.mem_append_left _ (List.mem_append_right _ h)))) (by decide +kernel))
set_option maxRecDepth 20000 in
theorem gX0_scale_X0_total : GoodIn wsX0_scale (wsV RX0 74 RX0 yX0_total wsX0_total) := goodIn_app (goodIn_of _ (by decide +kernel)) ggX0_scale_X0_total
theorem dX0_scale_0 : decode cX0_scale 0 = .ok (.iload_n 1, 1) := by decide +kernel
theorem dX0_scale_1 : decode cX0_scale 1 = .ok (.iconst 0, 1) := by decide +kernel
theorem dX0_scale_2 : decode cX0_scale 2 = .ok (.sipush 300, 3) := by decide +kernel
theorem dX0_scale_5 : decode cX0_scale 5 = .ok (.invokestatic 42, 3) := by decide +kernel
theorem dX0_scale_8 : decode cX0_scale 8 = .ok (.iconst 0, 1) := by decide +kernel
theorem dX0_scale_9 : decode cX0_scale 9 = .ok (.istore_n 2, 1) := by decide +kernel
theorem dX0_scale_10 : decode cX0_scale 10 = .ok (.iload_n 2, 1) := by decide +kernel
theorem dX0_scale_11 : decode cX0_scale 11 = .ok (.aload_n 0, 1) := by decide +kernel
theorem dX0_scale_12 : decode cX0_scale 12 = .ok (.getfield 46, 3) := by decide +kernel
theorem dX0_scale_15 : decode cX0_scale 15 = .ok (.if_icmp .ge 29, 3) := by decide +kernel
theorem dX0_scale_18 : decode cX0_scale 18 = .ok (.aload_n 0, 1) := by decide +kernel
theorem dX0_scale_19 : decode cX0_scale 19 = .ok (.getfield 9, 3) := by decide +kernel
theorem dX0_scale_22 : decode cX0_scale 22 = .ok (.iload_n 2, 1) := by decide +kernel
theorem dX0_scale_23 : decode cX0_scale 23 = .ok (.iaload, 1) := by decide +kernel
theorem dX0_scale_24 : decode cX0_scale 24 = .ok (.iload_n 1, 1) := by decide +kernel
theorem dX0_scale_25 : decode cX0_scale 25 = .ok (.invokestatic 67, 3) := by decide +kernel
theorem dX0_scale_28 : decode cX0_scale 28 = .ok (.aload_n 0, 1) := by decide +kernel
theorem dX0_scale_29 : decode cX0_scale 29 = .ok (.getfield 13, 3) := by decide +kernel
theorem dX0_scale_32 : decode cX0_scale 32 = .ok (.iload_n 2, 1) := by decide +kernel
theorem dX0_scale_33 : decode cX0_scale 33 = .ok (.iaload, 1) := by decide +kernel
theorem dX0_scale_34 : decode cX0_scale 34 = .ok (.iload_n 1, 1) := by decide +kernel
theorem dX0_scale_35 : decode cX0_scale 35 = .ok (.invokestatic 67, 3) := by decide +kernel
theorem dX0_scale_38 : decode cX0_scale 38 = .ok (.iinc 2 1, 3) := by decide +kernel
theorem dX0_scale_41 : decode cX0_scale 41 = .ok (.goto (-31), 3) := by decide +kernel
theorem dX0_scale_44 : decode cX0_scale 44 = .ok (.iconst 0, 1) := by decide +kernel
theorem dX0_scale_45 : decode cX0_scale 45 = .ok (.istore_n 2, 1) := by decide +kernel
theorem dX0_scale_46 : decode cX0_scale 46 = .ok (.iload_n 2, 1) := by decide +kernel
theorem dX0_scale_47 : decode cX0_scale 47 = .ok (.aload_n 0, 1) := by decide +kernel
theorem dX0_scale_48 : decode cX0_scale 48 = .ok (.getfield 46, 3) := by decide +kernel
theorem dX0_scale_51 : decode cX0_scale 51 = .ok (.if_icmp .ge 41, 3) := by decide +kernel
theorem dX0_scale_54 : decode cX0_scale 54 = .ok (.aload_n 0, 1) := by decide +kernel
theorem dX0_scale_55 : decode cX0_scale 55 = .ok (.getfield 9, 3) := by decide +kernel
theorem dX0_scale_58 : decode cX0_scale 58 = .ok (.iload_n 2, 1) := by decide +kernel
theorem dX0_scale_59 : decode cX0_scale 59 = .ok (.aload_n 0, 1) := by decide +kernel
theorem dX0_scale_60 : decode cX0_scale 60 = .ok (.getfield 9, 3) := by decide +kernel
theorem dX0_scale_63 : decode cX0_scale 63 = .ok (.iload_n 2, 1) := by decide +kernel
theorem dX0_scale_64 : decode cX0_scale 64 = .ok (.iaload, 1) := by decide +kernel
theorem dX0_scale_65 : decode cX0_scale 65 = .ok (.iload_n 1, 1) := by decide +kernel
theorem dX0_scale_66 : decode cX0_scale 66 = .ok (.invokestatic 71, 3) := by decide +kernel
theorem dX0_scale_69 : decode cX0_scale 69 = .ok (.iastore, 1) := by decide +kernel
theorem dX0_scale_70 : decode cX0_scale 70 = .ok (.aload_n 0, 1) := by decide +kernel
theorem dX0_scale_71 : decode cX0_scale 71 = .ok (.getfield 13, 3) := by decide +kernel
theorem dX0_scale_74 : decode cX0_scale 74 = .ok (.iload_n 2, 1) := by decide +kernel
theorem dX0_scale_75 : decode cX0_scale 75 = .ok (.aload_n 0, 1) := by decide +kernel
theorem dX0_scale_76 : decode cX0_scale 76 = .ok (.getfield 13, 3) := by decide +kernel
theorem dX0_scale_79 : decode cX0_scale 79 = .ok (.iload_n 2, 1) := by decide +kernel
theorem dX0_scale_80 : decode cX0_scale 80 = .ok (.iaload, 1) := by decide +kernel
theorem dX0_scale_81 : decode cX0_scale 81 = .ok (.iload_n 1, 1) := by decide +kernel
theorem dX0_scale_82 : decode cX0_scale 82 = .ok (.invokestatic 71, 3) := by decide +kernel
theorem dX0_scale_85 : decode cX0_scale 85 = .ok (.iastore, 1) := by decide +kernel
theorem dX0_scale_86 : decode cX0_scale 86 = .ok (.iinc 2 1, 3) := by decide +kernel
theorem dX0_scale_89 : decode cX0_scale 89 = .ok (.goto (-43), 3) := by decide +kernel
theorem dX0_scale_92 : decode cX0_scale 92 = .ok (.aload_n 0, 1) := by decide +kernel
theorem dX0_scale_93 : decode cX0_scale 93 = .ok (.invokevirtual 64, 3) := by decide +kernel
theorem dX0_scale_96 : decode cX0_scale 96 = .ok (.aload_n 0, 1) := by decide +kernel
theorem dX0_scale_97 : decode cX0_scale 97 = .ok (.aload_n 0, 1) := by decide +kernel
theorem dX0_scale_98 : decode cX0_scale 98 = .ok (.getfield 9, 3) := by decide +kernel
theorem dX0_scale_101 : decode cX0_scale 101 = .ok (.invokevirtual 74, 3) := by decide +kernel
theorem dX0_scale_104 : decode cX0_scale 104 = .ok (.ireturn, 1) := by decide +kernel
set_option maxRecDepth 20000 in
theorem ggX0_imbalance_X0_total : GoodIn wsX0_imbalance wsX0_total := goodIn_ca (goodIn_r _ [7, 8, 9, 10, 11, 12, 13, 14, 15, 16, 17, 18, 19] (by decide +kernel) (by decide +kernel)) (goodIn_sub (fun _ h => List.mem_cons_of_mem _ (List.mem_append_right _ h)) (by decide +kernel))
set_option maxRecDepth 20000 in
theorem gX0_imbalance_X0_total : GoodIn wsX0_imbalance (wsV RX0 74 RX0 yX0_total wsX0_total) := goodIn_app (goodIn_of _ (by decide +kernel)) ggX0_imbalance_X0_total
theorem dX0_imbalance_0 : decode cX0_imbalance 0 = .ok (.aload_n 0, 1) := by decide +kernel
theorem dX0_imbalance_1 : decode cX0_imbalance 1 = .ok (.aload_n 0, 1) := by decide +kernel
theorem dX0_imbalance_2 : decode cX0_imbalance 2 = .ok (.getfield 9, 3) := by decide +kernel
theorem dX0_imbalance_5 : decode cX0_imbalance 5 = .ok (.invokevirtual 74, 3) := by decide +kernel
theorem dX0_imbalance_8 : decode cX0_imbalance 8 = .ok (.aload_n 0, 1) := by decide +kernel
theorem dX0_imbalance_9 : decode cX0_imbalance 9 = .ok (.aload_n 0, 1) := by decide +kernel
theorem dX0_imbalance_10 : decode cX0_imbalance 10 = .ok (.getfield 13, 3) := by decide +kernel
theorem dX0_imbalance_13 : decode cX0_imbalance 13 = .ok (.invokevirtual 74, 3) := by decide +kernel
theorem dX0_imbalance_16 : decode cX0_imbalance 16 = .ok (.isub, 1) := by decide +kernel
theorem dX0_imbalance_17 : decode cX0_imbalance 17 = .ok (.ireturn, 1) := by decide +kernel
set_option maxRecDepth 20000 in
theorem ggX0_isPossible_X0_imbalance : GoodIn wsX0_isPossible wsX0_imbalance := goodIn_ca (goodIn_r _ [5, 6, 7, 8, 9, 10, 4, 11, 12, 33, 34, 35, 36, 37, 38, 39, 40, 41, 42, 43] (by decide +kernel) (by decide +kernel)) (goodIn_sub (fun _ h => List.mem_cons_of_mem _ (List.mem_append_right _ h)) (by decide +kernel))
set_option maxRecDepth 20000 in
theorem gX0_isPossible_X0_imbalance : GoodIn wsX0_isPossible (wsV RX0 78 RX0 yX0_imbalance wsX0_imbalance) := goodIn_app (goodIn_of _ (by decide +kernel)) ggX0_isPossible_X0_imbalance
set_option maxRecDepth 20000 in
theorem ggX0_isPossible_X0_crowdedSet : GoodIn wsX0_isPossible wsX0_crowdedSet := goodIn_ca (goodIn_r _ [16, 7, 17, 18, 19, 4, 20, 12, 21, 22, 23, 24, 6, 25, 26, 27, 28, 29, 30, 31, 32, 33, 34, 35, 36, 37, 38, 39, 40, 41, 42, 43] (by decide +kernel) (by decide +kernel)) (goodIn_sub (fun _ h => List.mem_cons_of_mem _ (List.mem_append_right _ h)) (by decide +kernel))
set_option maxRecDepth 20000 in
theorem gX0_isPossible_X0_crowdedSet : GoodIn wsX0_isPossible (wsV RX0 82 RX0 yX0_crowdedSet wsX0_crowdedSet) := goodIn_app (goodIn_of _ (by decide +kernel)) ggX0_isPossible_X0_crowdedSet
theorem dX0_isPossible_0 : decode cX0_isPossible 0 = .ok (.aload_n 0, 1) := by decide +kernel
theorem dX0_isPossible_1 : decode cX0_isPossible 1 = .ok (.invokevirtual 78, 3) := by decide +kernel
theorem dX0_isPossible_4 : decode cX0_isPossible 4 = .ok (.ifCond .ne 15, 3) := by decide +kernel
theorem dX0_isPossible_7 : decode cX0_isPossible 7 = .ok (.aload_n 0, 1) := by decide +kernel
theorem dX0_isPossible_8 : decode cX0_isPossible 8 = .ok (.invokevirtual 82, 3) := by decide +kernel
theorem dX0_isPossible_11 : decode cX0_isPossible 11 = .ok (.iconst (-1), 1) := by decide +kernel
theorem dX0_isPossible_12 : decode cX0_isPossible 12 = .ok (.if_icmp .ne 7, 3) := by decide +kernel
theorem dX0_isPossible_15 : decode cX0_isPossible 15 = .ok (.iconst 1, 1) := by decide +kernel
theorem dX0_isPossible_16 : decode cX0_isPossible 16 = .ok (.goto 4, 3) := by decide +kernel
theorem dX0_isPossible_19 : decode cX0_isPossible 19 = .ok (.iconst 0, 1) := by decide +kernel
theorem dX0_isPossible_20 : decode cX0_isPossible 20 = .ok (.ireturn, 1) := by decide +kernel
set_option maxRecDepth 20000 in
theorem ggX0_crowdedSet_X0_allArms : GoodIn wsX0_crowdedSet wsX0_allArms := goodIn_r _ [6, 7, 21, 22, 23, 24, 25, 26, 27, 28, 29, 30, 31] (by decide +kernel) (by decide +kernel)
set_option maxRecDepth 20000 in
theorem gX0_crowdedSet_X0_allArms : GoodIn wsX0_crowdedSet (wsV RX0 85 RX0 yX0_allArms wsX0_allArms) := goodIn_app (goodIn_of _ (by decide +kernel)) ggX0_crowdedSet_X0_allArms
set_option maxRecDepth 20000 in
theorem ggX0_crowdedSet_X0_excessOver : GoodIn wsX0_crowdedSet wsX0_excessOver := goodIn_ca (goodIn_r _ [11, 7, 12, 13, 14, 15, 5, 16, 17, 18, 19, 20, 21, 22, 23, 24, 25, 26, 27, 28, 29, 30, 31] (by decide +kernel) (by decide +kernel)) (goodIn_sub (fun _ h => List.mem_cons_of_mem _ (List.mem_append_right _ h)) (by decide +kernel))
set_option maxRecDepth 20000 in
theorem gX0_crowdedSet_X0_excessOver : GoodIn wsX0_crowdedSet (wsV RX0 88 RX0 yX0_excessOver wsX0_excessOver) := goodIn_app (goodIn_of _ (by decide +kernel)) ggX0_crowdedSet_X0_excessOver
theorem dX0_crowdedSet_0 : decode cX0_crowdedSet 0 = .ok (.iconst 1, 1) := by decide +kernel
theorem dX0_crowdedSet_1 : decode cX0_crowdedSet 1 = .ok (.istore_n 1, 1) := by decide +kernel
theorem dX0_crowdedSet_2 : decode cX0_crowdedSet 2 = .ok (.iload_n 1, 1) := by decide +kernel
theorem dX0_crowdedSet_3 : decode cX0_crowdedSet 3 = .ok (.aload_n 0, 1) := by decide +kernel
theorem dX0_crowdedSet_4 : decode cX0_crowdedSet 4 = .ok (.invokevirtual 85, 3) := by decide +kernel
theorem dX0_crowdedSet_7 : decode cX0_crowdedSet 7 = .ok (.if_icmp .gt 23, 3) := by decide +kernel
theorem dX0_crowdedSet_10 : decode cX0_crowdedSet 10 = .ok (.aload_n 0, 1) := by decide +kernel
theorem dX0_crowdedSet_11 : decode cX0_crowdedSet 11 = .ok (.iload_n 1, 1) := by decide +kernel
theorem dX0_crowdedSet_12 : decode cX0_crowdedSet 12 = .ok (.aload_n 0, 1) := by decide +kernel
theorem dX0_crowdedSet_13 : decode cX0_crowdedSet 13 = .ok (.getfield 13, 3) := by decide +kernel
theorem dX0_crowdedSet_16 : decode cX0_crowdedSet 16 = .ok (.invokevirtual 88, 3) := by decide +kernel
theorem dX0_crowdedSet_19 : decode cX0_crowdedSet 19 = .ok (.ifCond .le 5, 3) := by decide +kernel
theorem dX0_crowdedSet_22 : decode cX0_crowdedSet 22 = .ok (.iload_n 1, 1) := by decide +kernel
theorem dX0_crowdedSet_23 : decode cX0_crowdedSet 23 = .ok (.ireturn, 1) := by decide +kernel
theorem dX0_crowdedSet_24 : decode cX0_crowdedSet 24 = .ok (.iinc 1 1, 3) := by decide +kernel
theorem dX0_crowdedSet_27 : decode cX0_crowdedSet 27 = .ok (.goto (-25), 3) := by decide +kernel
theorem dX0_crowdedSet_30 : decode cX0_crowdedSet 30 = .ok (.iconst (-1), 1) := by decide +kernel
theorem dX0_crowdedSet_31 : decode cX0_crowdedSet 31 = .ok (.ireturn, 1) := by decide +kernel
set_option maxRecDepth 20000 in
theorem ggX0_excess_X0_allArms : GoodIn wsX0_excess wsX0_allArms := goodIn_r _ [6, 7, 26, 27, 28, 29, 30, 31, 32, 33, 34, 35, 36] (by decide +kernel) (by decide +kernel)
set_option maxRecDepth 20000 in
theorem gX0_excess_X0_allArms : GoodIn wsX0_excess (wsV RX0 85 RX0 yX0_allArms wsX0_allArms) := goodIn_app (goodIn_of _ (by decide +kernel)) ggX0_excess_X0_allArms
set_option maxRecDepth 20000 in
theorem ggX0_excess_X0_requireWithin : GoodIn wsX0_excess wsX0_requireWithin := goodIn_ca (goodIn_r _ [10, 11, 12] (by decide +kernel) (by decide +kernel)) (goodIn_sub (fun _ h => List.mem_cons_of_mem _ (List.mem_append_left _ (List.mem_append_right _ h))) (by decide +kernel))
set_option maxRecDepth 20000 in
theorem gX0_excess_X0_requireWithin : GoodIn wsX0_excess (va_wsS RX0 42 yX0_requireWithin wsX0_requireWithin) := goodIn_app (goodIn_of _ (by decide +kernel)) ggX0_excess_X0_requireWithin
set_option maxRecDepth 20000 in
theorem ggX0_excess_X0_excessOver : GoodIn wsX0_excess wsX0_excessOver := goodIn_ca (goodIn_r _ [16, 7, 17, 18, 19, 20, 5, 21, 22, 23, 24, 25, 26, 27, 28, 29, 30, 31, 32, 33, 34, 35, 36] (by decide +kernel) (by decide +kernel)) (goodIn_sub (fun _ h => List.mem_cons_of_mem _ (List.mem_append_right _ h)) (by decide +kernel))
set_option maxRecDepth 20000 in
theorem gX0_excess_X0_excessOver : GoodIn wsX0_excess (wsV RX0 88 RX0 yX0_excessOver wsX0_excessOver) := goodIn_app (goodIn_of _ (by decide +kernel)) ggX0_excess_X0_excessOver
theorem dX0_excess_0 : decode cX0_excess 0 = .ok (.iload_n 1, 1) := by decide +kernel
theorem dX0_excess_1 : decode cX0_excess 1 = .ok (.iconst 0, 1) := by decide +kernel
theorem dX0_excess_2 : decode cX0_excess 2 = .ok (.aload_n 0, 1) := by decide +kernel
theorem dX0_excess_3 : decode cX0_excess 3 = .ok (.invokevirtual 85, 3) := by decide +kernel
theorem dX0_excess_6 : decode cX0_excess 6 = .ok (.invokestatic 42, 3) := by decide +kernel
theorem dX0_excess_9 : decode cX0_excess 9 = .ok (.aload_n 0, 1) := by decide +kernel
theorem dX0_excess_10 : decode cX0_excess 10 = .ok (.iload_n 1, 1) := by decide +kernel
theorem dX0_excess_11 : decode cX0_excess 11 = .ok (.aload_n 0, 1) := by decide +kernel
theorem dX0_excess_12 : decode cX0_excess 12 = .ok (.getfield 13, 3) := by decide +kernel
theorem dX0_excess_15 : decode cX0_excess 15 = .ok (.invokevirtual 88, 3) := by decide +kernel
theorem dX0_excess_18 : decode cX0_excess 18 = .ok (.ireturn, 1) := by decide +kernel
set_option maxRecDepth 20000 in
theorem ggX0_iterate_X0_requireWithin : GoodIn wsX0_iterate wsX0_requireWithin := goodIn_ca (goodIn_r _ [5, 6, 7] (by decide +kernel) (by decide +kernel)) (goodIn_sub (fun _ h => List.mem_cons_of_mem _ (List.mem_append_left _ (List.mem_append_right _ h))) (by decide +kernel))
set_option maxRecDepth 20000 in
theorem gX0_iterate_X0_requireWithin : GoodIn wsX0_iterate (va_wsS RX0 42 yX0_requireWithin wsX0_requireWithin) := goodIn_app (goodIn_of _ (by decide +kernel)) ggX0_iterate_X0_requireWithin
set_option maxRecDepth 20000 in
theorem ggX0_iterate_X0_carryOutRound : GoodIn wsX0_iterate wsX0_carryOutRound := goodIn_ca (goodIn_r _ [11, 12, 1, 13, 14, 15, 4, 16, 17, 18, 19, 20, 21, 22, 23, 24, 25, 26, 27, 28, 29, 30, 31, 32, 33, 34, 35, 36, 37, 38, 39, 40, 41, 42, 43, 44, 45] (by decide +kernel) (by decide +kernel)) (goodIn_sub (fun _ h => List.mem_cons_of_mem _ (List.mem_append_right _ h)) (by decide +kernel))
set_option maxRecDepth 20000 in
theorem gX0_iterate_X0_carryOutRound : GoodIn wsX0_iterate (wsV RX0 92 RX0 yX0_carryOutRound wsX0_carryOutRound) := goodIn_app (goodIn_of _ (by decide +kernel)) ggX0_iterate_X0_carryOutRound
theorem dX0_iterate_0 : decode cX0_iterate 0 = .ok (.iload_n 1, 1) := by decide +kernel
theorem dX0_iterate_1 : decode cX0_iterate 1 = .ok (.iconst 1, 1) := by decide +kernel
theorem dX0_iterate_2 : decode cX0_iterate 2 = .ok (.bipush 50, 2) := by decide +kernel
theorem dX0_iterate_4 : decode cX0_iterate 4 = .ok (.invokestatic 42, 3) := by decide +kernel
theorem dX0_iterate_7 : decode cX0_iterate 7 = .ok (.iconst 0, 1) := by decide +kernel
theorem dX0_iterate_8 : decode cX0_iterate 8 = .ok (.istore_n 2, 1) := by decide +kernel
theorem dX0_iterate_9 : decode cX0_iterate 9 = .ok (.iload_n 2, 1) := by decide +kernel
theorem dX0_iterate_10 : decode cX0_iterate 10 = .ok (.iload_n 1, 1) := by decide +kernel
theorem dX0_iterate_11 : decode cX0_iterate 11 = .ok (.if_icmp .ge 13, 3) := by decide +kernel
theorem dX0_iterate_14 : decode cX0_iterate 14 = .ok (.aload_n 0, 1) := by decide +kernel
theorem dX0_iterate_15 : decode cX0_iterate 15 = .ok (.invokevirtual 92, 3) := by decide +kernel
theorem dX0_iterate_18 : decode cX0_iterate 18 = .ok (.iinc 2 1, 3) := by decide +kernel
theorem dX0_iterate_21 : decode cX0_iterate 21 = .ok (.goto (-12), 3) := by decide +kernel
theorem dX0_iterate_24 : decode cX0_iterate 24 = .ok (.aload_n 0, 1) := by decide +kernel
theorem dX0_iterate_25 : decode cX0_iterate 25 = .ok (.getfield 95, 3) := by decide +kernel
theorem dX0_iterate_28 : decode cX0_iterate 28 = .ok (.ireturn, 1) := by decide +kernel
set_option maxRecDepth 20000 in
theorem ggX0_fit_X0_requireWithin : GoodIn wsX0_fit wsX0_requireWithin := goodIn_ca (goodIn_r _ [6, 7, 8] (by decide +kernel) (by decide +kernel)) (goodIn_sub (fun _ h => List.mem_cons_of_mem _ (List.mem_append_left _ (List.mem_append_right _ h))) (by decide +kernel))
set_option maxRecDepth 20000 in
theorem gX0_fit_X0_requireWithin : GoodIn wsX0_fit (va_wsS RX0 42 yX0_requireWithin wsX0_requireWithin) := goodIn_app (goodIn_of _ (by decide +kernel)) ggX0_fit_X0_requireWithin
set_option maxRecDepth 20000 in
theorem ggX0_fit_X0_misfit : GoodIn wsX0_fit wsX0_misfit := goodIn_ca (goodIn_r _ [12, 13, 14, 15, 16, 17, 18, 5, 19, 20, 21, 22, 23, 24, 25, 26, 27, 28, 29, 30, 44, 45, 46, 47, 48, 49, 50, 51, 52, 53, 54] (by decide +kernel) (by decide +kernel)) (goodIn_sub (fun _ h => List.mem_cons_of_mem _ (List.mem_append_right _ h)) (by decide +kernel))
set_option maxRecDepth 20000 in
theorem gX0_fit_X0_misfit : GoodIn wsX0_fit (wsV RX0 101 RX0 yX0_misfit wsX0_misfit) := goodIn_app (goodIn_of _ (by decide +kernel)) ggX0_fit_X0_misfit
set_option maxRecDepth 20000 in
theorem ggX0_fit_X0_carryOutRound : GoodIn wsX0_fit wsX0_carryOutRound := goodIn_ca (goodIn_r _ [34, 13, 35, 36, 37, 38, 5, 39, 14, 20, 16, 17, 18, 19, 21, 22, 23, 40, 41, 42, 43, 15, 27, 28, 29, 30, 44, 45, 46, 47, 48, 49, 50, 51, 52, 53, 54] (by decide +kernel) (by decide +kernel)) (goodIn_sub (fun _ h => List.mem_cons_of_mem _ (List.mem_append_right _ h)) (by decide +kernel))
set_option maxRecDepth 20000 in
theorem gX0_fit_X0_carryOutRound : GoodIn wsX0_fit (wsV RX0 92 RX0 yX0_carryOutRound wsX0_carryOutRound) := goodIn_app (goodIn_of _ (by decide +kernel)) ggX0_fit_X0_carryOutRound
theorem dX0_fit_0 : decode cX0_fit 0 = .ok (.iload_n 1, 1) := by decide +kernel
theorem dX0_fit_1 : decode cX0_fit 1 = .ok (.iconst 0, 1) := by decide +kernel
theorem dX0_fit_2 : decode cX0_fit 2 = .ok (.ldc 98, 2) := by decide +kernel
theorem dX0_fit_4 : decode cX0_fit 4 = .ok (.invokestatic 42, 3) := by decide +kernel
theorem dX0_fit_7 : decode cX0_fit 7 = .ok (.iload_n 2, 1) := by decide +kernel
theorem dX0_fit_8 : decode cX0_fit 8 = .ok (.iconst 1, 1) := by decide +kernel
theorem dX0_fit_9 : decode cX0_fit 9 = .ok (.bipush 100, 2) := by decide +kernel
theorem dX0_fit_11 : decode cX0_fit 11 = .ok (.invokestatic 42, 3) := by decide +kernel
theorem dX0_fit_14 : decode cX0_fit 14 = .ok (.iload_n 1, 1) := by decide +kernel
theorem dX0_fit_15 : decode cX0_fit 15 = .ok (.i2d, 1) := by decide +kernel
theorem dX0_fit_16 : decode cX0_fit 16 = .ok (.ldc2_w 99, 3) := by decide +kernel
theorem dX0_fit_19 : decode cX0_fit 19 = .ok (.ddiv, 1) := by decide +kernel
theorem dX0_fit_20 : decode cX0_fit 20 = .ok (.dstore_n 3, 1) := by decide +kernel
theorem dX0_fit_21 : decode cX0_fit 21 = .ok (.iconst 0, 1) := by decide +kernel
theorem dX0_fit_22 : decode cX0_fit 22 = .ok (.istore 5, 2) := by decide +kernel
theorem dX0_fit_24 : decode cX0_fit 24 = .ok (.iload 5, 2) := by decide +kernel
theorem dX0_fit_26 : decode cX0_fit 26 = .ok (.iload_n 2, 1) := by decide +kernel
theorem dX0_fit_27 : decode cX0_fit 27 = .ok (.if_icmp .ge 22, 3) := by decide +kernel
theorem dX0_fit_30 : decode cX0_fit 30 = .ok (.aload_n 0, 1) := by decide +kernel
theorem dX0_fit_31 : decode cX0_fit 31 = .ok (.invokevirtual 101, 3) := by decide +kernel
theorem dX0_fit_34 : decode cX0_fit 34 = .ok (.dload_n 3, 1) := by decide +kernel
theorem dX0_fit_35 : decode cX0_fit 35 = .ok (.dcmp .l, 1) := by decide +kernel
theorem dX0_fit_36 : decode cX0_fit 36 = .ok (.ifCond .le 13, 3) := by decide +kernel
theorem dX0_fit_39 : decode cX0_fit 39 = .ok (.aload_n 0, 1) := by decide +kernel
theorem dX0_fit_40 : decode cX0_fit 40 = .ok (.invokevirtual 92, 3) := by decide +kernel
theorem dX0_fit_43 : decode cX0_fit 43 = .ok (.iinc 5 1, 3) := by decide +kernel
theorem dX0_fit_46 : decode cX0_fit 46 = .ok (.goto (-22), 3) := by decide +kernel
theorem dX0_fit_49 : decode cX0_fit 49 = .ok (.iload 5, 2) := by decide +kernel
theorem dX0_fit_51 : decode cX0_fit 51 = .ok (.ireturn, 1) := by decide +kernel
set_option maxRecDepth 20000 in
theorem ggX0_reset_X0_resetEstimate : GoodIn wsX0_reset wsX0_resetEstimate := goodIn_ca (goodIn_r _ [6, 7, 8, 9, 1, 10, 11, 5, 12, 13, 14, 15, 16, 17, 18, 19, 20, 21, 22, 23] (by decide +kernel) (by decide +kernel)) (goodIn_sub (fun _ h => List.mem_cons_of_mem _ (List.mem_append_right _ h)) (by decide +kernel))
set_option maxRecDepth 20000 in
theorem gX0_reset_X0_resetEstimate : GoodIn wsX0_reset (wsV RX0 64 RX0 yX0_resetEstimate wsX0_resetEstimate) := goodIn_app (goodIn_of _ (by decide +kernel)) ggX0_reset_X0_resetEstimate
theorem dX0_reset_0 : decode cX0_reset 0 = .ok (.aload_n 0, 1) := by decide +kernel
theorem dX0_reset_1 : decode cX0_reset 1 = .ok (.getfield 95, 3) := by decide +kernel
theorem dX0_reset_4 : decode cX0_reset 4 = .ok (.istore_n 1, 1) := by decide +kernel
theorem dX0_reset_5 : decode cX0_reset 5 = .ok (.aload_n 0, 1) := by decide +kernel
theorem dX0_reset_6 : decode cX0_reset 6 = .ok (.invokevirtual 64, 3) := by decide +kernel
theorem dX0_reset_9 : decode cX0_reset 9 = .ok (.iload_n 1, 1) := by decide +kernel
theorem dX0_reset_10 : decode cX0_reset 10 = .ok (.ireturn, 1) := by decide +kernel
theorem dX0_rounds_0 : decode cX0_rounds 0 = .ok (.aload_n 0, 1) := by decide +kernel
theorem dX0_rounds_1 : decode cX0_rounds 1 = .ok (.getfield 95, 3) := by decide +kernel
theorem dX0_rounds_4 : decode cX0_rounds 4 = .ok (.ireturn, 1) := by decide +kernel
set_option maxRecDepth 20000 in
theorem ggX0_estimate_X0_requireArm : GoodIn wsX0_estimate wsX0_requireArm := goodIn_ca (goodIn_r _ [6, 7, 8, 9, 13, 14, 15, 16, 17, 18, 19, 20, 21, 22, 23] (by decide +kernel) (by decide +kernel)) (goodIn_sub (fun _ h => List.mem_cons_of_mem _ (List.mem_append_right _ h)) (by decide +kernel))
set_option maxRecDepth 20000 in
theorem gX0_estimate_X0_requireArm : GoodIn wsX0_estimate (wsV RX0 54 RX0 yX0_requireArm wsX0_requireArm) := goodIn_app (goodIn_of _ (by decide +kernel)) ggX0_estimate_X0_requireArm
set_option maxRecDepth 20000 in
theorem ggX0_estimate_X0_turn : GoodIn wsX0_estimate wsX0_turn := goodIn_r _ [12] (by decide +kernel) (by decide +kernel)
set_option maxRecDepth 20000 in
theorem gX0_estimate_X0_turn : GoodIn wsX0_estimate (va_wsS RX0 57 yX0_turn wsX0_turn) := goodIn_app (goodIn_of _ (by decide +kernel)) ggX0_estimate_X0_turn
theorem dX0_estimate_0 : decode cX0_estimate 0 = .ok (.aload_n 0, 1) := by decide +kernel
theorem dX0_estimate_1 : decode cX0_estimate 1 = .ok (.iload_n 1, 1) := by decide +kernel
theorem dX0_estimate_2 : decode cX0_estimate 2 = .ok (.invokevirtual 54, 3) := by decide +kernel
theorem dX0_estimate_5 : decode cX0_estimate 5 = .ok (.aload_n 0, 1) := by decide +kernel
theorem dX0_estimate_6 : decode cX0_estimate 6 = .ok (.iload_n 2, 1) := by decide +kernel
theorem dX0_estimate_7 : decode cX0_estimate 7 = .ok (.invokevirtual 54, 3) := by decide +kernel
theorem dX0_estimate_10 : decode cX0_estimate 10 = .ok (.aload_n 0, 1) := by decide +kernel
theorem dX0_estimate_11 : decode cX0_estimate 11 = .ok (.getfield 19, 3) := by decide +kernel
theorem dX0_estimate_14 : decode cX0_estimate 14 = .ok (.iload_n 1, 1) := by decide +kernel
theorem dX0_estimate_15 : decode cX0_estimate 15 = .ok (.iload_n 2, 1) := by decide +kernel
theorem dX0_estimate_16 : decode cX0_estimate 16 = .ok (.invokestatic 57, 3) := by decide +kernel
theorem dX0_estimate_19 : decode cX0_estimate 19 = .ok (.daload, 1) := by decide +kernel
theorem dX0_estimate_20 : decode cX0_estimate 20 = .ok (.dreturn, 1) := by decide +kernel
set_option maxRecDepth 20000 in
theorem ggX0_sum_X0_requireArm : GoodIn wsX0_sum wsX0_requireArm := goodIn_ca (goodIn_r _ [5, 6, 7, 8, 21, 22, 23, 24, 25, 26, 27, 28, 29, 30, 31] (by decide +kernel) (by decide +kernel)) (goodIn_sub (fun _ h => List.mem_cons_of_mem _ (List.mem_append_left _ (List.mem_append_right _ h))) (by decide +kernel))
set_option maxRecDepth 20000 in
theorem gX0_sum_X0_requireArm : GoodIn wsX0_sum (wsV RX0 54 RX0 yX0_requireArm wsX0_requireArm) := goodIn_app (goodIn_of _ (by decide +kernel)) ggX0_sum_X0_requireArm
set_option maxRecDepth 20000 in
theorem ggX0_sum_X0_columnSum : GoodIn wsX0_sum wsX0_columnSum := goodIn_ca (goodIn_r _ [12, 8, 13, 14, 15, 4, 16, 21, 22, 23, 24, 25, 26, 27, 28, 29, 30, 31] (by decide +kernel) (by decide +kernel)) (goodIn_sub (fun _ h => List.mem_cons_of_mem _ (List.mem_append_right _ h)) (by decide +kernel))
set_option maxRecDepth 20000 in
theorem gX0_sum_X0_columnSum : GoodIn wsX0_sum (wsV RX0 105 RX0 yX0_columnSum wsX0_columnSum) := goodIn_app (goodIn_of _ (by decide +kernel)) ggX0_sum_X0_columnSum
set_option maxRecDepth 20000 in
theorem ggX0_sum_X0_rowSum : GoodIn wsX0_sum wsX0_rowSum := goodIn_ca (goodIn_r _ [20, 8, 13, 14, 15, 4, 16, 21, 22, 23, 24, 25, 26, 27, 28, 29, 30, 31] (by decide +kernel) (by decide +kernel)) (goodIn_sub (fun _ h => List.mem_cons_of_mem _ (List.mem_append_right _ h)) (by decide +kernel))
set_option maxRecDepth 20000 in
theorem gX0_sum_X0_rowSum : GoodIn wsX0_sum (wsV RX0 109 RX0 yX0_rowSum wsX0_rowSum) := goodIn_app (goodIn_of _ (by decide +kernel)) ggX0_sum_X0_rowSum
theorem dX0_sum_0 : decode cX0_sum 0 = .ok (.aload_n 0, 1) := by decide +kernel
theorem dX0_sum_1 : decode cX0_sum 1 = .ok (.iload_n 1, 1) := by decide +kernel
theorem dX0_sum_2 : decode cX0_sum 2 = .ok (.invokevirtual 54, 3) := by decide +kernel
theorem dX0_sum_5 : decode cX0_sum 5 = .ok (.iload_n 2, 1) := by decide +kernel
theorem dX0_sum_6 : decode cX0_sum 6 = .ok (.ifCond .eq 11, 3) := by decide +kernel
theorem dX0_sum_9 : decode cX0_sum 9 = .ok (.aload_n 0, 1) := by decide +kernel
theorem dX0_sum_10 : decode cX0_sum 10 = .ok (.iload_n 1, 1) := by decide +kernel
theorem dX0_sum_11 : decode cX0_sum 11 = .ok (.invokevirtual 105, 3) := by decide +kernel
theorem dX0_sum_14 : decode cX0_sum 14 = .ok (.goto 8, 3) := by decide +kernel
theorem dX0_sum_17 : decode cX0_sum 17 = .ok (.aload_n 0, 1) := by decide +kernel
theorem dX0_sum_18 : decode cX0_sum 18 = .ok (.iload_n 1, 1) := by decide +kernel
theorem dX0_sum_19 : decode cX0_sum 19 = .ok (.invokevirtual 109, 3) := by decide +kernel
theorem dX0_sum_22 : decode cX0_sum 22 = .ok (.dreturn, 1) := by decide +kernel
set_option maxRecDepth 20000 in
theorem ggX0_misfit_X0_rowSum : GoodIn wsX0_misfit wsX0_rowSum := goodIn_ca (goodIn_r _ [8, 1, 9, 10, 11, 7, 12, 20, 21, 22, 23, 24, 25, 26, 27, 28, 29, 30] (by decide +kernel) (by decide +kernel)) (goodIn_sub (fun _ h => List.mem_cons_of_mem _ (List.mem_append_right _ h)) (by decide +kernel))
set_option maxRecDepth 20000 in
theorem gX0_misfit_X0_rowSum : GoodIn wsX0_misfit (wsV RX0 109 RX0 yX0_rowSum wsX0_rowSum) := goodIn_app (goodIn_of _ (by decide +kernel)) ggX0_misfit_X0_rowSum
set_option maxRecDepth 20000 in
theorem ggX0_misfit_X0_distance : GoodIn wsX0_misfit wsX0_distance := goodIn_r _ [15] (by decide +kernel) (by decide +kernel)
set_option maxRecDepth 20000 in
theorem gX0_misfit_X0_distance : GoodIn wsX0_misfit (va_wsS RX0 112 yX0_distance wsX0_distance) := goodIn_app (goodIn_of _ (by decide +kernel)) ggX0_misfit_X0_distance
set_option maxRecDepth 20000 in
theorem ggX0_misfit_X0_columnSum : GoodIn wsX0_misfit wsX0_columnSum := goodIn_ca (goodIn_r _ [19, 1, 9, 10, 11, 7, 12, 20, 21, 22, 23, 24, 25, 26, 27, 28, 29, 30] (by decide +kernel) (by decide +kernel)) (goodIn_sub (fun _ h => List.mem_cons_of_mem _ (List.mem_append_right _ h)) (by decide +kernel))
set_option maxRecDepth 20000 in
theorem gX0_misfit_X0_columnSum : GoodIn wsX0_misfit (wsV RX0 105 RX0 yX0_columnSum wsX0_columnSum) := goodIn_app (goodIn_of _ (by decide +kernel)) ggX0_misfit_X0_columnSum
theorem dX0_misfit_0 : decode cX0_misfit 0 = .ok (.dconst 0, 1) := by decide +kernel
theorem dX0_misfit_1 : decode cX0_misfit 1 = .ok (.dstore_n 1, 1) := by decide +kernel
theorem dX0_misfit_2 : decode cX0_misfit 2 = .ok (.iconst 0, 1) := by decide +kernel
theorem dX0_misfit_3 : decode cX0_misfit 3 = .ok (.istore_n 3, 1) := by decide +kernel
theorem dX0_misfit_4 : decode cX0_misfit 4 = .ok (.iload_n 3, 1) := by decide +kernel
theorem dX0_misfit_5 : decode cX0_misfit 5 = .ok (.aload_n 0, 1) := by decide +kernel
theorem dX0_misfit_6 : decode cX0_misfit 6 = .ok (.getfield 46, 3) := by decide +kernel
theorem dX0_misfit_9 : decode cX0_misfit 9 = .ok (.if_icmp .ge 71, 3) := by decide +kernel
theorem dX0_misfit_12 : decode cX0_misfit 12 = .ok (.aload_n 0, 1) := by decide +kernel
theorem dX0_misfit_13 : decode cX0_misfit 13 = .ok (.iload_n 3, 1) := by decide +kernel
theorem dX0_misfit_14 : decode cX0_misfit 14 = .ok (.invokevirtual 109, 3) := by decide +kernel
theorem dX0_misfit_17 : decode cX0_misfit 17 = .ok (.aload_n 0, 1) := by decide +kernel
theorem dX0_misfit_18 : decode cX0_misfit 18 = .ok (.getfield 9, 3) := by decide +kernel
theorem dX0_misfit_21 : decode cX0_misfit 21 = .ok (.iload_n 3, 1) := by decide +kernel
theorem dX0_misfit_22 : decode cX0_misfit 22 = .ok (.iaload, 1) := by decide +kernel
theorem dX0_misfit_23 : decode cX0_misfit 23 = .ok (.i2d, 1) := by decide +kernel
theorem dX0_misfit_24 : decode cX0_misfit 24 = .ok (.invokestatic 112, 3) := by decide +kernel
theorem dX0_misfit_27 : decode cX0_misfit 27 = .ok (.dstore 4, 2) := by decide +kernel
theorem dX0_misfit_29 : decode cX0_misfit 29 = .ok (.aload_n 0, 1) := by decide +kernel
theorem dX0_misfit_30 : decode cX0_misfit 30 = .ok (.iload_n 3, 1) := by decide +kernel
theorem dX0_misfit_31 : decode cX0_misfit 31 = .ok (.invokevirtual 105, 3) := by decide +kernel
theorem dX0_misfit_34 : decode cX0_misfit 34 = .ok (.aload_n 0, 1) := by decide +kernel
theorem dX0_misfit_35 : decode cX0_misfit 35 = .ok (.getfield 13, 3) := by decide +kernel
theorem dX0_misfit_38 : decode cX0_misfit 38 = .ok (.iload_n 3, 1) := by decide +kernel
theorem dX0_misfit_39 : decode cX0_misfit 39 = .ok (.iaload, 1) := by decide +kernel
theorem dX0_misfit_40 : decode cX0_misfit 40 = .ok (.i2d, 1) := by decide +kernel
theorem dX0_misfit_41 : decode cX0_misfit 41 = .ok (.invokestatic 112, 3) := by decide +kernel
theorem dX0_misfit_44 : decode cX0_misfit 44 = .ok (.dstore 6, 2) := by decide +kernel
theorem dX0_misfit_46 : decode cX0_misfit 46 = .ok (.dload 4, 2) := by decide +kernel
theorem dX0_misfit_48 : decode cX0_misfit 48 = .ok (.dload_n 1, 1) := by decide +kernel
theorem dX0_misfit_49 : decode cX0_misfit 49 = .ok (.dcmp .l, 1) := by decide +kernel
theorem dX0_misfit_50 : decode cX0_misfit 50 = .ok (.ifCond .le 8, 3) := by decide +kernel
theorem dX0_misfit_53 : decode cX0_misfit 53 = .ok (.dload 4, 2) := by decide +kernel
theorem dX0_misfit_55 : decode cX0_misfit 55 = .ok (.goto 4, 3) := by decide +kernel
theorem dX0_misfit_58 : decode cX0_misfit 58 = .ok (.dload_n 1, 1) := by decide +kernel
theorem dX0_misfit_59 : decode cX0_misfit 59 = .ok (.dstore_n 1, 1) := by decide +kernel
theorem dX0_misfit_60 : decode cX0_misfit 60 = .ok (.dload 6, 2) := by decide +kernel
theorem dX0_misfit_62 : decode cX0_misfit 62 = .ok (.dload_n 1, 1) := by decide +kernel
theorem dX0_misfit_63 : decode cX0_misfit 63 = .ok (.dcmp .l, 1) := by decide +kernel
theorem dX0_misfit_64 : decode cX0_misfit 64 = .ok (.ifCond .le 8, 3) := by decide +kernel
theorem dX0_misfit_67 : decode cX0_misfit 67 = .ok (.dload 6, 2) := by decide +kernel
theorem dX0_misfit_69 : decode cX0_misfit 69 = .ok (.goto 4, 3) := by decide +kernel
theorem dX0_misfit_72 : decode cX0_misfit 72 = .ok (.dload_n 1, 1) := by decide +kernel
theorem dX0_misfit_73 : decode cX0_misfit 73 = .ok (.dstore_n 1, 1) := by decide +kernel
theorem dX0_misfit_74 : decode cX0_misfit 74 = .ok (.iinc 3 1, 3) := by decide +kernel
theorem dX0_misfit_77 : decode cX0_misfit 77 = .ok (.goto (-73), 3) := by decide +kernel
theorem dX0_misfit_80 : decode cX0_misfit 80 = .ok (.dload_n 1, 1) := by decide +kernel
theorem dX0_misfit_81 : decode cX0_misfit 81 = .ok (.dreturn, 1) := by decide +kernel
set_option maxRecDepth 20000 in
theorem ggX0_share_X0_requireArm : GoodIn wsX0_share wsX0_requireArm := goodIn_ca (goodIn_r _ [6, 7, 8, 9, 17, 18, 19, 20, 21, 22, 23, 24, 25, 26, 27] (by decide +kernel) (by decide +kernel)) (goodIn_sub (fun _ h => List.mem_cons_of_mem _ (List.mem_append_right _ h)) (by decide +kernel))
set_option maxRecDepth 20000 in
theorem gX0_share_X0_requireArm : GoodIn wsX0_share (wsV RX0 54 RX0 yX0_requireArm wsX0_requireArm) := goodIn_app (goodIn_of _ (by decide +kernel)) ggX0_share_X0_requireArm
set_option maxRecDepth 20000 in
theorem ggX0_share_X0_rowSum : GoodIn wsX0_share wsX0_rowSum := goodIn_ca (goodIn_r _ [13, 9, 1, 14, 15, 5, 16, 17, 18, 19, 20, 21, 22, 23, 24, 25, 26, 27] (by decide +kernel) (by decide +kernel)) (goodIn_sub (fun _ h => List.mem_cons_of_mem _ (List.mem_append_left _ (List.mem_append_right _ h))) (by decide +kernel))
set_option maxRecDepth 20000 in
theorem gX0_share_X0_rowSum : GoodIn wsX0_share (wsV RX0 109 RX0 yX0_rowSum wsX0_rowSum) := goodIn_app (goodIn_of _ (by decide +kernel)) ggX0_share_X0_rowSum
set_option maxRecDepth 20000 in
theorem ggX0_share_X0_turn : GoodIn wsX0_share wsX0_turn := goodIn_r _ [16] (by decide +kernel) (by decide +kernel)
set_option maxRecDepth 20000 in
theorem gX0_share_X0_turn : GoodIn wsX0_share (va_wsS RX0 57 yX0_turn wsX0_turn) := goodIn_app (goodIn_of _ (by decide +kernel)) ggX0_share_X0_turn
theorem dX0_share_0 : decode cX0_share 0 = .ok (.aload_n 0, 1) := by decide +kernel
theorem dX0_share_1 : decode cX0_share 1 = .ok (.iload_n 1, 1) := by decide +kernel
theorem dX0_share_2 : decode cX0_share 2 = .ok (.invokevirtual 54, 3) := by decide +kernel
theorem dX0_share_5 : decode cX0_share 5 = .ok (.aload_n 0, 1) := by decide +kernel
theorem dX0_share_6 : decode cX0_share 6 = .ok (.iload_n 2, 1) := by decide +kernel
theorem dX0_share_7 : decode cX0_share 7 = .ok (.invokevirtual 54, 3) := by decide +kernel
theorem dX0_share_10 : decode cX0_share 10 = .ok (.aload_n 0, 1) := by decide +kernel
theorem dX0_share_11 : decode cX0_share 11 = .ok (.iload_n 1, 1) := by decide +kernel
theorem dX0_share_12 : decode cX0_share 12 = .ok (.invokevirtual 109, 3) := by decide +kernel
theorem dX0_share_15 : decode cX0_share 15 = .ok (.dstore_n 3, 1) := by decide +kernel
theorem dX0_share_16 : decode cX0_share 16 = .ok (.dload_n 3, 1) := by decide +kernel
theorem dX0_share_17 : decode cX0_share 17 = .ok (.dconst 0, 1) := by decide +kernel
theorem dX0_share_18 : decode cX0_share 18 = .ok (.dcmp .l, 1) := by decide +kernel
theorem dX0_share_19 : decode cX0_share 19 = .ok (.ifCond .le 18, 3) := by decide +kernel
theorem dX0_share_22 : decode cX0_share 22 = .ok (.aload_n 0, 1) := by decide +kernel
theorem dX0_share_23 : decode cX0_share 23 = .ok (.getfield 19, 3) := by decide +kernel
theorem dX0_share_26 : decode cX0_share 26 = .ok (.iload_n 1, 1) := by decide +kernel
theorem dX0_share_27 : decode cX0_share 27 = .ok (.iload_n 2, 1) := by decide +kernel
theorem dX0_share_28 : decode cX0_share 28 = .ok (.invokestatic 57, 3) := by decide +kernel
theorem dX0_share_31 : decode cX0_share 31 = .ok (.daload, 1) := by decide +kernel
theorem dX0_share_32 : decode cX0_share 32 = .ok (.dload_n 3, 1) := by decide +kernel
theorem dX0_share_33 : decode cX0_share 33 = .ok (.ddiv, 1) := by decide +kernel
theorem dX0_share_34 : decode cX0_share 34 = .ok (.goto 4, 3) := by decide +kernel
theorem dX0_share_37 : decode cX0_share 37 = .ok (.dconst 0, 1) := by decide +kernel
theorem dX0_share_38 : decode cX0_share 38 = .ok (.dreturn, 1) := by decide +kernel
set_option maxRecDepth 20000 in
theorem ggX0_crossRatio_X0_requireArm : GoodIn wsX0_crossRatio wsX0_requireArm := goodIn_ca (goodIn_r _ [8, 9, 10, 11, 15, 16, 17, 18, 19, 20, 21, 22, 23, 24, 25] (by decide +kernel) (by decide +kernel)) (goodIn_sub (fun _ h => List.mem_cons_of_mem _ (List.mem_append_right _ h)) (by decide +kernel))
set_option maxRecDepth 20000 in
theorem gX0_crossRatio_X0_requireArm : GoodIn wsX0_crossRatio (wsV RX0 54 RX0 yX0_requireArm wsX0_requireArm) := goodIn_app (goodIn_of _ (by decide +kernel)) ggX0_crossRatio_X0_requireArm
set_option maxRecDepth 20000 in
theorem ggX0_crossRatio_X0_turn : GoodIn wsX0_crossRatio wsX0_turn := goodIn_r _ [14] (by decide +kernel) (by decide +kernel)
set_option maxRecDepth 20000 in
theorem gX0_crossRatio_X0_turn : GoodIn wsX0_crossRatio (va_wsS RX0 57 yX0_turn wsX0_turn) := goodIn_app (goodIn_of _ (by decide +kernel)) ggX0_crossRatio_X0_turn
theorem dX0_crossRatio_0 : decode cX0_crossRatio 0 = .ok (.aload_n 0, 1) := by decide +kernel
theorem dX0_crossRatio_1 : decode cX0_crossRatio 1 = .ok (.iload_n 1, 1) := by decide +kernel
theorem dX0_crossRatio_2 : decode cX0_crossRatio 2 = .ok (.invokevirtual 54, 3) := by decide +kernel
theorem dX0_crossRatio_5 : decode cX0_crossRatio 5 = .ok (.aload_n 0, 1) := by decide +kernel
theorem dX0_crossRatio_6 : decode cX0_crossRatio 6 = .ok (.iload_n 2, 1) := by decide +kernel
theorem dX0_crossRatio_7 : decode cX0_crossRatio 7 = .ok (.invokevirtual 54, 3) := by decide +kernel
theorem dX0_crossRatio_10 : decode cX0_crossRatio 10 = .ok (.aload_n 0, 1) := by decide +kernel
theorem dX0_crossRatio_11 : decode cX0_crossRatio 11 = .ok (.iload_n 3, 1) := by decide +kernel
theorem dX0_crossRatio_12 : decode cX0_crossRatio 12 = .ok (.invokevirtual 54, 3) := by decide +kernel
theorem dX0_crossRatio_15 : decode cX0_crossRatio 15 = .ok (.aload_n 0, 1) := by decide +kernel
theorem dX0_crossRatio_16 : decode cX0_crossRatio 16 = .ok (.iload 4, 2) := by decide +kernel
theorem dX0_crossRatio_18 : decode cX0_crossRatio 18 = .ok (.invokevirtual 54, 3) := by decide +kernel
theorem dX0_crossRatio_21 : decode cX0_crossRatio 21 = .ok (.aload_n 0, 1) := by decide +kernel
theorem dX0_crossRatio_22 : decode cX0_crossRatio 22 = .ok (.getfield 19, 3) := by decide +kernel
theorem dX0_crossRatio_25 : decode cX0_crossRatio 25 = .ok (.iload_n 1, 1) := by decide +kernel
theorem dX0_crossRatio_26 : decode cX0_crossRatio 26 = .ok (.iload_n 3, 1) := by decide +kernel
theorem dX0_crossRatio_27 : decode cX0_crossRatio 27 = .ok (.invokestatic 57, 3) := by decide +kernel
theorem dX0_crossRatio_30 : decode cX0_crossRatio 30 = .ok (.daload, 1) := by decide +kernel
theorem dX0_crossRatio_31 : decode cX0_crossRatio 31 = .ok (.aload_n 0, 1) := by decide +kernel
theorem dX0_crossRatio_32 : decode cX0_crossRatio 32 = .ok (.getfield 19, 3) := by decide +kernel
theorem dX0_crossRatio_35 : decode cX0_crossRatio 35 = .ok (.iload_n 2, 1) := by decide +kernel
theorem dX0_crossRatio_36 : decode cX0_crossRatio 36 = .ok (.iload 4, 2) := by decide +kernel
theorem dX0_crossRatio_38 : decode cX0_crossRatio 38 = .ok (.invokestatic 57, 3) := by decide +kernel
theorem dX0_crossRatio_41 : decode cX0_crossRatio 41 = .ok (.daload, 1) := by decide +kernel
theorem dX0_crossRatio_42 : decode cX0_crossRatio 42 = .ok (.dmul, 1) := by decide +kernel
theorem dX0_crossRatio_43 : decode cX0_crossRatio 43 = .ok (.dstore 5, 2) := by decide +kernel
theorem dX0_crossRatio_45 : decode cX0_crossRatio 45 = .ok (.aload_n 0, 1) := by decide +kernel
theorem dX0_crossRatio_46 : decode cX0_crossRatio 46 = .ok (.getfield 19, 3) := by decide +kernel
theorem dX0_crossRatio_49 : decode cX0_crossRatio 49 = .ok (.iload_n 1, 1) := by decide +kernel
theorem dX0_crossRatio_50 : decode cX0_crossRatio 50 = .ok (.iload 4, 2) := by decide +kernel
theorem dX0_crossRatio_52 : decode cX0_crossRatio 52 = .ok (.invokestatic 57, 3) := by decide +kernel
theorem dX0_crossRatio_55 : decode cX0_crossRatio 55 = .ok (.daload, 1) := by decide +kernel
theorem dX0_crossRatio_56 : decode cX0_crossRatio 56 = .ok (.aload_n 0, 1) := by decide +kernel
theorem dX0_crossRatio_57 : decode cX0_crossRatio 57 = .ok (.getfield 19, 3) := by decide +kernel
theorem dX0_crossRatio_60 : decode cX0_crossRatio 60 = .ok (.iload_n 2, 1) := by decide +kernel
theorem dX0_crossRatio_61 : decode cX0_crossRatio 61 = .ok (.iload_n 3, 1) := by decide +kernel
theorem dX0_crossRatio_62 : decode cX0_crossRatio 62 = .ok (.invokestatic 57, 3) := by decide +kernel
theorem dX0_crossRatio_65 : decode cX0_crossRatio 65 = .ok (.daload, 1) := by decide +kernel
theorem dX0_crossRatio_66 : decode cX0_crossRatio 66 = .ok (.dmul, 1) := by decide +kernel
theorem dX0_crossRatio_67 : decode cX0_crossRatio 67 = .ok (.dstore 7, 2) := by decide +kernel
theorem dX0_crossRatio_69 : decode cX0_crossRatio 69 = .ok (.dload 7, 2) := by decide +kernel
theorem dX0_crossRatio_71 : decode cX0_crossRatio 71 = .ok (.dconst 0, 1) := by decide +kernel
theorem dX0_crossRatio_72 : decode cX0_crossRatio 72 = .ok (.dcmp .l, 1) := by decide +kernel
theorem dX0_crossRatio_73 : decode cX0_crossRatio 73 = .ok (.ifCond .gt 13, 3) := by decide +kernel
theorem dX0_crossRatio_76 : decode cX0_crossRatio 76 = .ok (.new 116, 3) := by decide +kernel
theorem dX0_crossRatio_79 : decode cX0_crossRatio 79 = .ok (.dup, 1) := by decide +kernel
theorem dX0_crossRatio_80 : decode cX0_crossRatio 80 = .ok (.ldc 118, 2) := by decide +kernel
theorem dX0_crossRatio_82 : decode cX0_crossRatio 82 = .ok (.invokespecial 120, 3) := by decide +kernel
theorem dX0_crossRatio_85 : decode cX0_crossRatio 85 = .ok (.athrow, 1) := by decide +kernel
theorem dX0_crossRatio_86 : decode cX0_crossRatio 86 = .ok (.dload 5, 2) := by decide +kernel
theorem dX0_crossRatio_88 : decode cX0_crossRatio 88 = .ok (.dload 7, 2) := by decide +kernel
theorem dX0_crossRatio_90 : decode cX0_crossRatio 90 = .ok (.ddiv, 1) := by decide +kernel
theorem dX0_crossRatio_91 : decode cX0_crossRatio 91 = .ok (.dreturn, 1) := by decide +kernel
set_option maxRecDepth 20000 in
theorem ggX0_busiestTurn_X0_turn : GoodIn wsX0_busiestTurn wsX0_turn := goodIn_r _ [6] (by decide +kernel) (by decide +kernel)
set_option maxRecDepth 20000 in
theorem gX0_busiestTurn_X0_turn : GoodIn wsX0_busiestTurn (va_wsS RX0 57 yX0_turn wsX0_turn) := goodIn_app (goodIn_of _ (by decide +kernel)) ggX0_busiestTurn_X0_turn
theorem dX0_busiestTurn_0 : decode cX0_busiestTurn 0 = .ok (.iconst (-1), 1) := by decide +kernel
theorem dX0_busiestTurn_1 : decode cX0_busiestTurn 1 = .ok (.istore_n 1, 1) := by decide +kernel
theorem dX0_busiestTurn_2 : decode cX0_busiestTurn 2 = .ok (.dconst 0, 1) := by decide +kernel
theorem dX0_busiestTurn_3 : decode cX0_busiestTurn 3 = .ok (.dstore_n 2, 1) := by decide +kernel
theorem dX0_busiestTurn_4 : decode cX0_busiestTurn 4 = .ok (.iconst 0, 1) := by decide +kernel
theorem dX0_busiestTurn_5 : decode cX0_busiestTurn 5 = .ok (.istore 4, 2) := by decide +kernel
theorem dX0_busiestTurn_7 : decode cX0_busiestTurn 7 = .ok (.iload 4, 2) := by decide +kernel
theorem dX0_busiestTurn_9 : decode cX0_busiestTurn 9 = .ok (.aload_n 0, 1) := by decide +kernel
theorem dX0_busiestTurn_10 : decode cX0_busiestTurn 10 = .ok (.getfield 46, 3) := by decide +kernel
theorem dX0_busiestTurn_13 : decode cX0_busiestTurn 13 = .ok (.if_icmp .ge 66, 3) := by decide +kernel
theorem dX0_busiestTurn_16 : decode cX0_busiestTurn 16 = .ok (.iconst 0, 1) := by decide +kernel
theorem dX0_busiestTurn_17 : decode cX0_busiestTurn 17 = .ok (.istore 5, 2) := by decide +kernel
theorem dX0_busiestTurn_19 : decode cX0_busiestTurn 19 = .ok (.iload 5, 2) := by decide +kernel
theorem dX0_busiestTurn_21 : decode cX0_busiestTurn 21 = .ok (.aload_n 0, 1) := by decide +kernel
theorem dX0_busiestTurn_22 : decode cX0_busiestTurn 22 = .ok (.getfield 46, 3) := by decide +kernel
theorem dX0_busiestTurn_25 : decode cX0_busiestTurn 25 = .ok (.if_icmp .ge 48, 3) := by decide +kernel
theorem dX0_busiestTurn_28 : decode cX0_busiestTurn 28 = .ok (.aload_n 0, 1) := by decide +kernel
theorem dX0_busiestTurn_29 : decode cX0_busiestTurn 29 = .ok (.getfield 19, 3) := by decide +kernel
theorem dX0_busiestTurn_32 : decode cX0_busiestTurn 32 = .ok (.iload 4, 2) := by decide +kernel
theorem dX0_busiestTurn_34 : decode cX0_busiestTurn 34 = .ok (.iload 5, 2) := by decide +kernel
theorem dX0_busiestTurn_36 : decode cX0_busiestTurn 36 = .ok (.invokestatic 57, 3) := by decide +kernel
theorem dX0_busiestTurn_39 : decode cX0_busiestTurn 39 = .ok (.daload, 1) := by decide +kernel
theorem dX0_busiestTurn_40 : decode cX0_busiestTurn 40 = .ok (.dload_n 2, 1) := by decide +kernel
theorem dX0_busiestTurn_41 : decode cX0_busiestTurn 41 = .ok (.dcmp .l, 1) := by decide +kernel
theorem dX0_busiestTurn_42 : decode cX0_busiestTurn 42 = .ok (.ifCond .le 25, 3) := by decide +kernel
theorem dX0_busiestTurn_45 : decode cX0_busiestTurn 45 = .ok (.aload_n 0, 1) := by decide +kernel
theorem dX0_busiestTurn_46 : decode cX0_busiestTurn 46 = .ok (.getfield 19, 3) := by decide +kernel
theorem dX0_busiestTurn_49 : decode cX0_busiestTurn 49 = .ok (.iload 4, 2) := by decide +kernel
theorem dX0_busiestTurn_51 : decode cX0_busiestTurn 51 = .ok (.iload 5, 2) := by decide +kernel
theorem dX0_busiestTurn_53 : decode cX0_busiestTurn 53 = .ok (.invokestatic 57, 3) := by decide +kernel
theorem dX0_busiestTurn_56 : decode cX0_busiestTurn 56 = .ok (.daload, 1) := by decide +kernel
theorem dX0_busiestTurn_57 : decode cX0_busiestTurn 57 = .ok (.dstore_n 2, 1) := by decide +kernel
theorem dX0_busiestTurn_58 : decode cX0_busiestTurn 58 = .ok (.bipush 10, 2) := by decide +kernel
theorem dX0_busiestTurn_60 : decode cX0_busiestTurn 60 = .ok (.iload 4, 2) := by decide +kernel
theorem dX0_busiestTurn_62 : decode cX0_busiestTurn 62 = .ok (.imul, 1) := by decide +kernel
theorem dX0_busiestTurn_63 : decode cX0_busiestTurn 63 = .ok (.iload 5, 2) := by decide +kernel
theorem dX0_busiestTurn_65 : decode cX0_busiestTurn 65 = .ok (.iadd, 1) := by decide +kernel
theorem dX0_busiestTurn_66 : decode cX0_busiestTurn 66 = .ok (.istore_n 1, 1) := by decide +kernel
theorem dX0_busiestTurn_67 : decode cX0_busiestTurn 67 = .ok (.iinc 5 1, 3) := by decide +kernel
theorem dX0_busiestTurn_70 : decode cX0_busiestTurn 70 = .ok (.goto (-51), 3) := by decide +kernel
theorem dX0_busiestTurn_73 : decode cX0_busiestTurn 73 = .ok (.iinc 4 1, 3) := by decide +kernel
theorem dX0_busiestTurn_76 : decode cX0_busiestTurn 76 = .ok (.goto (-69), 3) := by decide +kernel
theorem dX0_busiestTurn_79 : decode cX0_busiestTurn 79 = .ok (.iload_n 1, 1) := by decide +kernel
theorem dX0_busiestTurn_80 : decode cX0_busiestTurn 80 = .ok (.ireturn, 1) := by decide +kernel
set_option maxRecDepth 20000 in
theorem ggX0_rounded_X0_requireArm : GoodIn wsX0_rounded wsX0_requireArm := goodIn_ca (goodIn_r _ [6, 7, 8, 9, 45, 46, 47, 48, 49, 50, 51, 52, 53, 54, 55] (by decide +kernel) (by decide +kernel)) (goodIn_sub (fun _ h => List.mem_cons_of_mem _ (List.mem_append_right _ h)) (by decide +kernel))
set_option maxRecDepth 20000 in
theorem gX0_rounded_X0_requireArm : GoodIn wsX0_rounded (wsV RX0 54 RX0 yX0_requireArm wsX0_requireArm) := goodIn_app (goodIn_of _ (by decide +kernel)) ggX0_rounded_X0_requireArm
set_option maxRecDepth 20000 in
theorem ggX0_rounded_X0_roundRow : GoodIn wsX0_rounded wsX0_roundRow := goodIn_ca (goodIn_r _ [13, 9, 14, 15, 1, 16, 17, 18, 19, 5, 20, 21, 22, 23, 24, 25, 26, 27, 28, 29, 30, 31, 32, 33, 34, 35, 36, 37, 38, 39, 40, 41, 42, 43, 44, 45, 46, 47, 48, 49, 50, 51, 52, 53, 54, 55] (by decide +kernel) (by decide +kernel)) (goodIn_sub (fun _ h => List.mem_cons_of_mem _ (List.mem_append_left _ (List.mem_append_right _ h))) (by decide +kernel))
set_option maxRecDepth 20000 in
theorem gX0_rounded_X0_roundRow : GoodIn wsX0_rounded (wsV RX0 123 RX0 yX0_roundRow wsX0_roundRow) := goodIn_app (goodIn_of _ (by decide +kernel)) ggX0_rounded_X0_roundRow
set_option maxRecDepth 20000 in
theorem ggX0_rounded_X0_turn : GoodIn wsX0_rounded wsX0_turn := goodIn_r _ [23] (by decide +kernel) (by decide +kernel)
set_option maxRecDepth 20000 in
theorem gX0_rounded_X0_turn : GoodIn wsX0_rounded (va_wsS RX0 57 yX0_turn wsX0_turn) := goodIn_app (goodIn_of _ (by decide +kernel)) ggX0_rounded_X0_turn
theorem dX0_rounded_0 : decode cX0_rounded 0 = .ok (.aload_n 0, 1) := by decide +kernel
theorem dX0_rounded_1 : decode cX0_rounded 1 = .ok (.iload_n 1, 1) := by decide +kernel
theorem dX0_rounded_2 : decode cX0_rounded 2 = .ok (.invokevirtual 54, 3) := by decide +kernel
theorem dX0_rounded_5 : decode cX0_rounded 5 = .ok (.aload_n 0, 1) := by decide +kernel
theorem dX0_rounded_6 : decode cX0_rounded 6 = .ok (.iload_n 2, 1) := by decide +kernel
theorem dX0_rounded_7 : decode cX0_rounded 7 = .ok (.invokevirtual 54, 3) := by decide +kernel
theorem dX0_rounded_10 : decode cX0_rounded 10 = .ok (.aload_n 0, 1) := by decide +kernel
theorem dX0_rounded_11 : decode cX0_rounded 11 = .ok (.iload_n 1, 1) := by decide +kernel
theorem dX0_rounded_12 : decode cX0_rounded 12 = .ok (.invokevirtual 123, 3) := by decide +kernel
theorem dX0_rounded_15 : decode cX0_rounded 15 = .ok (.aload_n 0, 1) := by decide +kernel
theorem dX0_rounded_16 : decode cX0_rounded 16 = .ok (.getfield 26, 3) := by decide +kernel
theorem dX0_rounded_19 : decode cX0_rounded 19 = .ok (.iload_n 1, 1) := by decide +kernel
theorem dX0_rounded_20 : decode cX0_rounded 20 = .ok (.iload_n 2, 1) := by decide +kernel
theorem dX0_rounded_21 : decode cX0_rounded 21 = .ok (.invokestatic 57, 3) := by decide +kernel
theorem dX0_rounded_24 : decode cX0_rounded 24 = .ok (.iaload, 1) := by decide +kernel
theorem dX0_rounded_25 : decode cX0_rounded 25 = .ok (.ireturn, 1) := by decide +kernel
set_option maxRecDepth 20000 in
theorem ggX0_roundedMisfit_X0_roundAllRows : GoodIn wsX0_roundedMisfit wsX0_roundAllRows := goodIn_ca (goodIn_r _ [5, 6, 7, 8, 9, 4, 10, 11, 12, 13, 14, 15, 16, 17, 18, 19, 20, 21, 22, 23, 24, 25, 26, 27, 28, 29, 30, 31, 32, 33, 34, 35, 36, 37, 38, 39, 40, 41, 42, 51, 52, 53, 54, 55, 56, 57, 58, 59, 60, 61] (by decide +kernel) (by decide +kernel)) (goodIn_sub (fun _ h => List.mem_cons_of_mem _ (List.mem_append_right _ h)) (by decide +kernel))
set_option maxRecDepth 20000 in
theorem gX0_roundedMisfit_X0_roundAllRows : GoodIn wsX0_roundedMisfit (wsV RX0 126 RX0 yX0_roundAllRows wsX0_roundAllRows) := goodIn_app (goodIn_of _ (by decide +kernel)) ggX0_roundedMisfit_X0_roundAllRows
set_option maxRecDepth 20000 in
theorem ggX0_roundedMisfit_X0_roundedDifference : GoodIn wsX0_roundedMisfit wsX0_roundedDifference := goodIn_ca (goodIn_r _ [46, 6, 13, 47, 48, 49, 28, 50, 19, 20, 4, 21, 51, 52, 53, 54, 55, 56, 57, 58, 59, 60, 61] (by decide +kernel) (by decide +kernel)) (goodIn_sub (fun _ h => List.mem_cons_of_mem _ (List.mem_append_right _ h)) (by decide +kernel))
set_option maxRecDepth 20000 in
theorem gX0_roundedMisfit_X0_roundedDifference : GoodIn wsX0_roundedMisfit (wsV RX0 129 RX0 yX0_roundedDifference wsX0_roundedDifference) := goodIn_app (goodIn_of _ (by decide +kernel)) ggX0_roundedMisfit_X0_roundedDifference
theorem dX0_roundedMisfit_0 : decode cX0_roundedMisfit 0 = .ok (.aload_n 0, 1) := by decide +kernel
theorem dX0_roundedMisfit_1 : decode cX0_roundedMisfit 1 = .ok (.invokevirtual 126, 3) := by decide +kernel
theorem dX0_roundedMisfit_4 : decode cX0_roundedMisfit 4 = .ok (.aload_n 0, 1) := by decide +kernel
theorem dX0_roundedMisfit_5 : decode cX0_roundedMisfit 5 = .ok (.invokevirtual 129, 3) := by decide +kernel
theorem dX0_roundedMisfit_8 : decode cX0_roundedMisfit 8 = .ok (.ireturn, 1) := by decide +kernel
set_option maxRecDepth 20000 in
theorem ggX0_possible_X0_requireArm : GoodIn wsX0_possible wsX0_requireArm := goodIn_ca (goodIn_r _ [6, 7, 8, 9, 68, 69, 70, 71, 72, 73, 74, 75, 76, 77, 78] (by decide +kernel) (by decide +kernel)) (goodIn_sub (fun _ h => List.mem_cons_of_mem _ (List.mem_append_right _ h)) (by decide +kernel))
set_option maxRecDepth 20000 in
theorem gX0_possible_X0_requireArm : GoodIn wsX0_possible (wsV RX0 54 RX0 yX0_requireArm wsX0_requireArm) := goodIn_app (goodIn_of _ (by decide +kernel)) ggX0_possible_X0_requireArm
set_option maxRecDepth 20000 in
theorem ggX0_possible_X0_fillPossibleTable : GoodIn wsX0_possible wsX0_fillPossibleTable := goodIn_ca (goodIn_r _ [13, 14, 15, 16, 17, 18, 19, 9, 20, 1, 21, 22, 23, 5, 24, 25, 26, 27, 28, 29, 30, 31, 32, 33, 34, 35, 36, 37, 38, 39, 40, 41, 42, 43, 44, 45, 46, 47, 48, 49, 50, 51, 52, 53, 54, 55, 56, 57, 58, 59, 60, 61, 62, 63, 64, 65, 66, 67, 68, 69, 70, 71, 72, 73, 74, 75, 76, 77, 78] (by decide +kernel) (by decide +kernel)) (goodIn_sub (fun _ h => List.mem_cons_of_mem _ (List.mem_append_left _ (List.mem_append_right _ h))) (by decide +kernel))
set_option maxRecDepth 20000 in
theorem gX0_possible_X0_fillPossibleTable : GoodIn wsX0_possible (wsV RX0 132 RX0 yX0_fillPossibleTable wsX0_fillPossibleTable) := goodIn_app (goodIn_of _ (by decide +kernel)) ggX0_possible_X0_fillPossibleTable
set_option maxRecDepth 20000 in
theorem ggX0_possible_X0_turn : GoodIn wsX0_possible wsX0_turn := goodIn_r _ [67] (by decide +kernel) (by decide +kernel)
set_option maxRecDepth 20000 in
theorem gX0_possible_X0_turn : GoodIn wsX0_possible (va_wsS RX0 57 yX0_turn wsX0_turn) := goodIn_app (goodIn_of _ (by decide +kernel)) ggX0_possible_X0_turn
theorem dX0_possible_0 : decode cX0_possible 0 = .ok (.aload_n 0, 1) := by decide +kernel
theorem dX0_possible_1 : decode cX0_possible 1 = .ok (.iload_n 1, 1) := by decide +kernel
theorem dX0_possible_2 : decode cX0_possible 2 = .ok (.invokevirtual 54, 3) := by decide +kernel
theorem dX0_possible_5 : decode cX0_possible 5 = .ok (.aload_n 0, 1) := by decide +kernel
theorem dX0_possible_6 : decode cX0_possible 6 = .ok (.iload_n 2, 1) := by decide +kernel
theorem dX0_possible_7 : decode cX0_possible 7 = .ok (.invokevirtual 54, 3) := by decide +kernel
theorem dX0_possible_10 : decode cX0_possible 10 = .ok (.aload_n 0, 1) := by decide +kernel
theorem dX0_possible_11 : decode cX0_possible 11 = .ok (.invokevirtual 132, 3) := by decide +kernel
theorem dX0_possible_14 : decode cX0_possible 14 = .ok (.aload_n 0, 1) := by decide +kernel
theorem dX0_possible_15 : decode cX0_possible 15 = .ok (.getfield 29, 3) := by decide +kernel
theorem dX0_possible_18 : decode cX0_possible 18 = .ok (.iload_n 1, 1) := by decide +kernel
theorem dX0_possible_19 : decode cX0_possible 19 = .ok (.iload_n 2, 1) := by decide +kernel
theorem dX0_possible_20 : decode cX0_possible 20 = .ok (.invokestatic 57, 3) := by decide +kernel
theorem dX0_possible_23 : decode cX0_possible 23 = .ok (.iaload, 1) := by decide +kernel
theorem dX0_possible_24 : decode cX0_possible 24 = .ok (.ireturn, 1) := by decide +kernel
set_option maxRecDepth 20000 in
theorem ggX0_digest_X0_roundAllRows : GoodIn wsX0_digest wsX0_roundAllRows := goodIn_ca (goodIn_r _ [10, 2, 11, 12, 13, 9, 14, 15, 3, 16, 17, 18, 19, 20, 21, 22, 23, 24, 25, 26, 27, 28, 29, 30, 31, 32, 33, 34, 35, 36, 37, 38, 39, 40, 41, 42, 43, 44, 45, 123, 124, 125, 126, 127, 128, 129, 130, 131, 132, 133] (by decide +kernel) (by decide +kernel)) (goodIn_sub (fun _ h => List.mem_cons_of_mem _ (List.mem_append_right _ h)) (by decide +kernel))
set_option maxRecDepth 20000 in
theorem gX0_digest_X0_roundAllRows : GoodIn wsX0_digest (wsV RX0 126 RX0 yX0_roundAllRows wsX0_roundAllRows) := goodIn_app (goodIn_of _ (by decide +kernel)) ggX0_digest_X0_roundAllRows
set_option maxRecDepth 20000 in
theorem ggX0_digest_X0_fillPossibleTable : GoodIn wsX0_digest wsX0_fillPossibleTable := goodIn_ca (goodIn_r _ [49, 4, 50, 51, 52, 53, 54, 2, 3, 55, 56, 57, 58, 9, 59, 60, 61, 62, 63, 64, 65, 66, 67, 68, 69, 70, 71, 72, 73, 74, 75, 76, 77, 78, 79, 80, 81, 82, 83, 42, 43, 44, 45, 84, 85, 86, 87, 29, 30, 31, 32, 38, 39, 40, 41, 22, 23, 24, 123, 124, 125, 126, 127, 128, 129, 130, 131, 132, 133] (by decide +kernel) (by decide +kernel)) (goodIn_sub (fun _ h => List.mem_cons_of_mem _ (List.mem_append_right _ h)) (by decide +kernel))
set_option maxRecDepth 20000 in
theorem gX0_digest_X0_fillPossibleTable : GoodIn wsX0_digest (wsV RX0 132 RX0 yX0_fillPossibleTable wsX0_fillPossibleTable) := goodIn_app (goodIn_of _ (by decide +kernel)) ggX0_digest_X0_fillPossibleTable
set_option maxRecDepth 20000 in
theorem ggX0_digest_X0_mixed : GoodIn wsX0_digest wsX0_mixed := goodIn_r _ [90, 91] (by decide +kernel) (by decide +kernel)
set_option maxRecDepth 20000 in
theorem gX0_digest_X0_mixed : GoodIn wsX0_digest (va_wsS RX0 137 yX0_mixed wsX0_mixed) := goodIn_app (goodIn_of _ (by decide +kernel)) ggX0_digest_X0_mixed
set_option maxRecDepth 20000 in
theorem ggX0_digest_X0_turn : GoodIn wsX0_digest wsX0_turn := goodIn_r _ [24] (by decide +kernel) (by decide +kernel)
set_option maxRecDepth 20000 in
theorem gX0_digest_X0_turn : GoodIn wsX0_digest (va_wsS RX0 57 yX0_turn wsX0_turn) := goodIn_app (goodIn_of _ (by decide +kernel)) ggX0_digest_X0_turn
set_option maxRecDepth 20000 in
theorem ggX0_digest_X0_mixedTurn : GoodIn wsX0_digest wsX0_mixedTurn := goodIn_ca (goodIn_r _ [95, 96, 15, 16, 55, 88, 89, 9, 90, 91, 97, 98, 99, 100, 123, 124, 125, 126, 127, 128, 129, 130, 131, 132, 133] (by decide +kernel) (by decide +kernel)) (goodIn_sub (fun _ h => List.mem_cons_of_mem _ (List.mem_append_right _ h)) (by decide +kernel))
set_option maxRecDepth 20000 in
theorem gX0_digest_X0_mixedTurn : GoodIn wsX0_digest (wsV RX0 141 RX0 yX0_mixedTurn wsX0_mixedTurn) := goodIn_app (goodIn_of _ (by decide +kernel)) ggX0_digest_X0_mixedTurn
set_option maxRecDepth 20000 in
theorem ggX0_digest_X0_imbalance : GoodIn wsX0_digest wsX0_imbalance := goodIn_ca (goodIn_r _ [63, 3, 4, 64, 65, 66, 9, 67, 2, 123, 124, 125, 126, 127, 128, 129, 130, 131, 132, 133] (by decide +kernel) (by decide +kernel)) (goodIn_sub (fun _ h => List.mem_cons_of_mem _ (List.mem_append_right _ h)) (by decide +kernel))
set_option maxRecDepth 20000 in
theorem gX0_digest_X0_imbalance : GoodIn wsX0_digest (wsV RX0 78 RX0 yX0_imbalance wsX0_imbalance) := goodIn_app (goodIn_of _ (by decide +kernel)) ggX0_digest_X0_imbalance
set_option maxRecDepth 20000 in
theorem ggX0_digest_X0_crowdedSet : GoodIn wsX0_digest wsX0_crowdedSet := goodIn_ca (goodIn_r _ [71, 4, 72, 73, 74, 9, 75, 2, 76, 77, 78, 79, 3, 80, 81, 82, 83, 42, 43, 44, 45, 123, 124, 125, 126, 127, 128, 129, 130, 131, 132, 133] (by decide +kernel) (by decide +kernel)) (goodIn_sub (fun _ h => List.mem_cons_of_mem _ (List.mem_append_right _ h)) (by decide +kernel))
set_option maxRecDepth 20000 in
theorem gX0_digest_X0_crowdedSet : GoodIn wsX0_digest (wsV RX0 82 RX0 yX0_crowdedSet wsX0_crowdedSet) := goodIn_app (goodIn_of _ (by decide +kernel)) ggX0_digest_X0_crowdedSet
set_option maxRecDepth 20000 in
theorem ggX0_digest_X0_misfit : GoodIn wsX0_digest wsX0_misfit := goodIn_ca (goodIn_r _ [104, 2, 3, 4, 18, 19, 20, 9, 21, 15, 22, 23, 24, 105, 106, 107, 108, 109, 110, 111, 123, 124, 125, 126, 127, 128, 129, 130, 131, 132, 133] (by decide +kernel) (by decide +kernel)) (goodIn_sub (fun _ h => List.mem_cons_of_mem _ (List.mem_append_right _ h)) (by decide +kernel))
set_option maxRecDepth 20000 in
theorem gX0_digest_X0_misfit : GoodIn wsX0_digest (wsV RX0 101 RX0 yX0_misfit wsX0_misfit) := goodIn_app (goodIn_of _ (by decide +kernel)) ggX0_digest_X0_misfit
set_option maxRecDepth 20000 in
theorem ggX0_digest_X0_thousandthsOf : GoodIn wsX0_digest wsX0_thousandthsOf := goodIn_r _ [99, 100] (by decide +kernel) (by decide +kernel)
set_option maxRecDepth 20000 in
theorem gX0_digest_X0_thousandthsOf : GoodIn wsX0_digest (va_wsS RX0 145 yX0_thousandthsOf wsX0_thousandthsOf) := goodIn_app (goodIn_of _ (by decide +kernel)) ggX0_digest_X0_thousandthsOf
set_option maxRecDepth 20000 in
theorem ggX0_digest_X0_busiestTurn : GoodIn wsX0_digest wsX0_busiestTurn := goodIn_ca (goodIn_r _ [115, 2, 15, 22, 23, 9, 24, 123, 124, 125, 126, 127, 128, 129, 130, 131, 132, 133] (by decide +kernel) (by decide +kernel)) (goodIn_sub (fun _ h => List.mem_cons_of_mem _ (List.mem_append_right _ h)) (by decide +kernel))
set_option maxRecDepth 20000 in
theorem gX0_digest_X0_busiestTurn : GoodIn wsX0_digest (wsV RX0 149 RX0 yX0_busiestTurn wsX0_busiestTurn) := goodIn_app (goodIn_of _ (by decide +kernel)) ggX0_digest_X0_busiestTurn
set_option maxRecDepth 20000 in
theorem ggX0_digest_X0_roundedDifference : GoodIn wsX0_digest wsX0_roundedDifference := goodIn_ca (goodIn_r _ [119, 2, 16, 4, 120, 121, 31, 122, 22, 23, 9, 24, 123, 124, 125, 126, 127, 128, 129, 130, 131, 132, 133] (by decide +kernel) (by decide +kernel)) (goodIn_sub (fun _ h => List.mem_cons_of_mem _ (List.mem_append_right _ h)) (by decide +kernel))
set_option maxRecDepth 20000 in
theorem gX0_digest_X0_roundedDifference : GoodIn wsX0_digest (wsV RX0 129 RX0 yX0_roundedDifference wsX0_roundedDifference) := goodIn_app (goodIn_of _ (by decide +kernel)) ggX0_digest_X0_roundedDifference
theorem dX0_digest_0 : decode cX0_digest 0 = .ok (.aload_n 0, 1) := by decide +kernel
theorem dX0_digest_1 : decode cX0_digest 1 = .ok (.invokevirtual 126, 3) := by decide +kernel
theorem dX0_digest_4 : decode cX0_digest 4 = .ok (.aload_n 0, 1) := by decide +kernel
theorem dX0_digest_5 : decode cX0_digest 5 = .ok (.invokevirtual 132, 3) := by decide +kernel
theorem dX0_digest_8 : decode cX0_digest 8 = .ok (.ldc2_w 135, 3) := by decide +kernel
theorem dX0_digest_11 : decode cX0_digest 11 = .ok (.aload_n 0, 1) := by decide +kernel
theorem dX0_digest_12 : decode cX0_digest 12 = .ok (.getfield 46, 3) := by decide +kernel
theorem dX0_digest_15 : decode cX0_digest 15 = .ok (.i2l, 1) := by decide +kernel
theorem dX0_digest_16 : decode cX0_digest 16 = .ok (.invokestatic 137, 3) := by decide +kernel
theorem dX0_digest_19 : decode cX0_digest 19 = .ok (.lstore_n 1, 1) := by decide +kernel
theorem dX0_digest_20 : decode cX0_digest 20 = .ok (.iconst 0, 1) := by decide +kernel
theorem dX0_digest_21 : decode cX0_digest 21 = .ok (.istore_n 3, 1) := by decide +kernel
theorem dX0_digest_22 : decode cX0_digest 22 = .ok (.iload_n 3, 1) := by decide +kernel
theorem dX0_digest_23 : decode cX0_digest 23 = .ok (.aload_n 0, 1) := by decide +kernel
theorem dX0_digest_24 : decode cX0_digest 24 = .ok (.getfield 46, 3) := by decide +kernel
theorem dX0_digest_27 : decode cX0_digest 27 = .ok (.if_icmp .ge 33, 3) := by decide +kernel
theorem dX0_digest_30 : decode cX0_digest 30 = .ok (.lload_n 1, 1) := by decide +kernel
theorem dX0_digest_31 : decode cX0_digest 31 = .ok (.aload_n 0, 1) := by decide +kernel
theorem dX0_digest_32 : decode cX0_digest 32 = .ok (.getfield 9, 3) := by decide +kernel
theorem dX0_digest_35 : decode cX0_digest 35 = .ok (.iload_n 3, 1) := by decide +kernel
theorem dX0_digest_36 : decode cX0_digest 36 = .ok (.iaload, 1) := by decide +kernel
theorem dX0_digest_37 : decode cX0_digest 37 = .ok (.i2l, 1) := by decide +kernel
theorem dX0_digest_38 : decode cX0_digest 38 = .ok (.invokestatic 137, 3) := by decide +kernel
theorem dX0_digest_41 : decode cX0_digest 41 = .ok (.lstore_n 1, 1) := by decide +kernel
theorem dX0_digest_42 : decode cX0_digest 42 = .ok (.lload_n 1, 1) := by decide +kernel
theorem dX0_digest_43 : decode cX0_digest 43 = .ok (.aload_n 0, 1) := by decide +kernel
theorem dX0_digest_44 : decode cX0_digest 44 = .ok (.getfield 13, 3) := by decide +kernel
theorem dX0_digest_47 : decode cX0_digest 47 = .ok (.iload_n 3, 1) := by decide +kernel
theorem dX0_digest_48 : decode cX0_digest 48 = .ok (.iaload, 1) := by decide +kernel
theorem dX0_digest_49 : decode cX0_digest 49 = .ok (.i2l, 1) := by decide +kernel
theorem dX0_digest_50 : decode cX0_digest 50 = .ok (.invokestatic 137, 3) := by decide +kernel
theorem dX0_digest_53 : decode cX0_digest 53 = .ok (.lstore_n 1, 1) := by decide +kernel
theorem dX0_digest_54 : decode cX0_digest 54 = .ok (.iinc 3 1, 3) := by decide +kernel
theorem dX0_digest_57 : decode cX0_digest 57 = .ok (.goto (-35), 3) := by decide +kernel
theorem dX0_digest_60 : decode cX0_digest 60 = .ok (.iconst 0, 1) := by decide +kernel
theorem dX0_digest_61 : decode cX0_digest 61 = .ok (.istore_n 3, 1) := by decide +kernel
theorem dX0_digest_62 : decode cX0_digest 62 = .ok (.iload_n 3, 1) := by decide +kernel
theorem dX0_digest_63 : decode cX0_digest 63 = .ok (.aload_n 0, 1) := by decide +kernel
theorem dX0_digest_64 : decode cX0_digest 64 = .ok (.getfield 46, 3) := by decide +kernel
theorem dX0_digest_67 : decode cX0_digest 67 = .ok (.if_icmp .ge 39, 3) := by decide +kernel
theorem dX0_digest_70 : decode cX0_digest 70 = .ok (.iconst 0, 1) := by decide +kernel
theorem dX0_digest_71 : decode cX0_digest 71 = .ok (.istore 4, 2) := by decide +kernel
theorem dX0_digest_73 : decode cX0_digest 73 = .ok (.iload 4, 2) := by decide +kernel
theorem dX0_digest_75 : decode cX0_digest 75 = .ok (.aload_n 0, 1) := by decide +kernel
theorem dX0_digest_76 : decode cX0_digest 76 = .ok (.getfield 46, 3) := by decide +kernel
theorem dX0_digest_79 : decode cX0_digest 79 = .ok (.if_icmp .ge 21, 3) := by decide +kernel
theorem dX0_digest_82 : decode cX0_digest 82 = .ok (.aload_n 0, 1) := by decide +kernel
theorem dX0_digest_83 : decode cX0_digest 83 = .ok (.lload_n 1, 1) := by decide +kernel
theorem dX0_digest_84 : decode cX0_digest 84 = .ok (.iload_n 3, 1) := by decide +kernel
theorem dX0_digest_85 : decode cX0_digest 85 = .ok (.iload 4, 2) := by decide +kernel
theorem dX0_digest_87 : decode cX0_digest 87 = .ok (.invokestatic 57, 3) := by decide +kernel
theorem dX0_digest_90 : decode cX0_digest 90 = .ok (.invokevirtual 141, 3) := by decide +kernel
theorem dX0_digest_93 : decode cX0_digest 93 = .ok (.lstore_n 1, 1) := by decide +kernel
theorem dX0_digest_94 : decode cX0_digest 94 = .ok (.iinc 4 1, 3) := by decide +kernel
theorem dX0_digest_97 : decode cX0_digest 97 = .ok (.goto (-24), 3) := by decide +kernel
theorem dX0_digest_100 : decode cX0_digest 100 = .ok (.iinc 3 1, 3) := by decide +kernel
theorem dX0_digest_103 : decode cX0_digest 103 = .ok (.goto (-41), 3) := by decide +kernel
theorem dX0_digest_106 : decode cX0_digest 106 = .ok (.lload_n 1, 1) := by decide +kernel
theorem dX0_digest_107 : decode cX0_digest 107 = .ok (.aload_n 0, 1) := by decide +kernel
theorem dX0_digest_108 : decode cX0_digest 108 = .ok (.invokevirtual 78, 3) := by decide +kernel
theorem dX0_digest_111 : decode cX0_digest 111 = .ok (.i2l, 1) := by decide +kernel
theorem dX0_digest_112 : decode cX0_digest 112 = .ok (.invokestatic 137, 3) := by decide +kernel
theorem dX0_digest_115 : decode cX0_digest 115 = .ok (.lstore_n 1, 1) := by decide +kernel
theorem dX0_digest_116 : decode cX0_digest 116 = .ok (.lload_n 1, 1) := by decide +kernel
theorem dX0_digest_117 : decode cX0_digest 117 = .ok (.aload_n 0, 1) := by decide +kernel
theorem dX0_digest_118 : decode cX0_digest 118 = .ok (.invokevirtual 82, 3) := by decide +kernel
theorem dX0_digest_121 : decode cX0_digest 121 = .ok (.i2l, 1) := by decide +kernel
theorem dX0_digest_122 : decode cX0_digest 122 = .ok (.invokestatic 137, 3) := by decide +kernel
theorem dX0_digest_125 : decode cX0_digest 125 = .ok (.lstore_n 1, 1) := by decide +kernel
theorem dX0_digest_126 : decode cX0_digest 126 = .ok (.lload_n 1, 1) := by decide +kernel
theorem dX0_digest_127 : decode cX0_digest 127 = .ok (.aload_n 0, 1) := by decide +kernel
theorem dX0_digest_128 : decode cX0_digest 128 = .ok (.getfield 95, 3) := by decide +kernel
theorem dX0_digest_131 : decode cX0_digest 131 = .ok (.i2l, 1) := by decide +kernel
theorem dX0_digest_132 : decode cX0_digest 132 = .ok (.invokestatic 137, 3) := by decide +kernel
theorem dX0_digest_135 : decode cX0_digest 135 = .ok (.lstore_n 1, 1) := by decide +kernel
theorem dX0_digest_136 : decode cX0_digest 136 = .ok (.lload_n 1, 1) := by decide +kernel
theorem dX0_digest_137 : decode cX0_digest 137 = .ok (.aload_n 0, 1) := by decide +kernel
theorem dX0_digest_138 : decode cX0_digest 138 = .ok (.invokevirtual 101, 3) := by decide +kernel
theorem dX0_digest_141 : decode cX0_digest 141 = .ok (.invokestatic 145, 3) := by decide +kernel
theorem dX0_digest_144 : decode cX0_digest 144 = .ok (.invokestatic 137, 3) := by decide +kernel
theorem dX0_digest_147 : decode cX0_digest 147 = .ok (.lstore_n 1, 1) := by decide +kernel
theorem dX0_digest_148 : decode cX0_digest 148 = .ok (.lload_n 1, 1) := by decide +kernel
theorem dX0_digest_149 : decode cX0_digest 149 = .ok (.aload_n 0, 1) := by decide +kernel
theorem dX0_digest_150 : decode cX0_digest 150 = .ok (.invokevirtual 149, 3) := by decide +kernel
theorem dX0_digest_153 : decode cX0_digest 153 = .ok (.i2l, 1) := by decide +kernel
theorem dX0_digest_154 : decode cX0_digest 154 = .ok (.invokestatic 137, 3) := by decide +kernel
theorem dX0_digest_157 : decode cX0_digest 157 = .ok (.lstore_n 1, 1) := by decide +kernel
theorem dX0_digest_158 : decode cX0_digest 158 = .ok (.lload_n 1, 1) := by decide +kernel
theorem dX0_digest_159 : decode cX0_digest 159 = .ok (.aload_n 0, 1) := by decide +kernel
theorem dX0_digest_160 : decode cX0_digest 160 = .ok (.invokevirtual 129, 3) := by decide +kernel
theorem dX0_digest_163 : decode cX0_digest 163 = .ok (.i2l, 1) := by decide +kernel
theorem dX0_digest_164 : decode cX0_digest 164 = .ok (.invokestatic 137, 3) := by decide +kernel
theorem dX0_digest_167 : decode cX0_digest 167 = .ok (.lreturn, 1) := by decide +kernel
theorem dX0_requireArm_0 : decode cX0_requireArm 0 = .ok (.iload_n 1, 1) := by decide +kernel
theorem dX0_requireArm_1 : decode cX0_requireArm 1 = .ok (.ifCond .lt 11, 3) := by decide +kernel
theorem dX0_requireArm_4 : decode cX0_requireArm 4 = .ok (.iload_n 1, 1) := by decide +kernel
theorem dX0_requireArm_5 : decode cX0_requireArm 5 = .ok (.aload_n 0, 1) := by decide +kernel
theorem dX0_requireArm_6 : decode cX0_requireArm 6 = .ok (.getfield 46, 3) := by decide +kernel
theorem dX0_requireArm_9 : decode cX0_requireArm 9 = .ok (.if_icmp .lt 13, 3) := by decide +kernel
theorem dX0_requireArm_12 : decode cX0_requireArm 12 = .ok (.new 152, 3) := by decide +kernel
theorem dX0_requireArm_15 : decode cX0_requireArm 15 = .ok (.dup, 1) := by decide +kernel
theorem dX0_requireArm_16 : decode cX0_requireArm 16 = .ok (.ldc 154, 2) := by decide +kernel
theorem dX0_requireArm_18 : decode cX0_requireArm 18 = .ok (.invokespecial 156, 3) := by decide +kernel
theorem dX0_requireArm_21 : decode cX0_requireArm 21 = .ok (.athrow, 1) := by decide +kernel
theorem dX0_requireArm_22 : decode cX0_requireArm 22 = .ok (.return_, 1) := by decide +kernel
theorem dX0_requireWithin_0 : decode cX0_requireWithin 0 = .ok (.iload_n 0, 1) := by decide +kernel
theorem dX0_requireWithin_1 : decode cX0_requireWithin 1 = .ok (.iload_n 1, 1) := by decide +kernel
theorem dX0_requireWithin_2 : decode cX0_requireWithin 2 = .ok (.if_icmp .lt 8, 3) := by decide +kernel
theorem dX0_requireWithin_5 : decode cX0_requireWithin 5 = .ok (.iload_n 0, 1) := by decide +kernel
theorem dX0_requireWithin_6 : decode cX0_requireWithin 6 = .ok (.iload_n 2, 1) := by decide +kernel
theorem dX0_requireWithin_7 : decode cX0_requireWithin 7 = .ok (.if_icmp .le 13, 3) := by decide +kernel
theorem dX0_requireWithin_10 : decode cX0_requireWithin 10 = .ok (.new 157, 3) := by decide +kernel
theorem dX0_requireWithin_13 : decode cX0_requireWithin 13 = .ok (.dup, 1) := by decide +kernel
theorem dX0_requireWithin_14 : decode cX0_requireWithin 14 = .ok (.ldc 159, 2) := by decide +kernel
theorem dX0_requireWithin_16 : decode cX0_requireWithin 16 = .ok (.invokespecial 161, 3) := by decide +kernel
theorem dX0_requireWithin_19 : decode cX0_requireWithin 19 = .ok (.athrow, 1) := by decide +kernel
theorem dX0_requireWithin_20 : decode cX0_requireWithin 20 = .ok (.return_, 1) := by decide +kernel
set_option maxRecDepth 20000 in
theorem ggX0_requireScalable_X0_scaled : GoodIn wsX0_requireScalable wsX0_scaled := goodIn_r _ [6] (by decide +kernel) (by decide +kernel)
set_option maxRecDepth 20000 in
theorem gX0_requireScalable_X0_scaled : GoodIn wsX0_requireScalable (va_wsS RX0 71 yX0_scaled wsX0_scaled) := goodIn_app (goodIn_of _ (by decide +kernel)) ggX0_requireScalable_X0_scaled
theorem dX0_requireScalable_0 : decode cX0_requireScalable 0 = .ok (.iload_n 0, 1) := by decide +kernel
theorem dX0_requireScalable_1 : decode cX0_requireScalable 1 = .ok (.iload_n 1, 1) := by decide +kernel
theorem dX0_requireScalable_2 : decode cX0_requireScalable 2 = .ok (.invokestatic 71, 3) := by decide +kernel
theorem dX0_requireScalable_5 : decode cX0_requireScalable 5 = .ok (.sipush 9999, 3) := by decide +kernel
theorem dX0_requireScalable_8 : decode cX0_requireScalable 8 = .ok (.if_icmp .le 13, 3) := by decide +kernel
theorem dX0_requireScalable_11 : decode cX0_requireScalable 11 = .ok (.new 162, 3) := by decide +kernel
theorem dX0_requireScalable_14 : decode cX0_requireScalable 14 = .ok (.dup, 1) := by decide +kernel
theorem dX0_requireScalable_15 : decode cX0_requireScalable 15 = .ok (.ldc 164, 2) := by decide +kernel
theorem dX0_requireScalable_17 : decode cX0_requireScalable 17 = .ok (.invokespecial 166, 3) := by decide +kernel
theorem dX0_requireScalable_20 : decode cX0_requireScalable 20 = .ok (.athrow, 1) := by decide +kernel
theorem dX0_requireScalable_21 : decode cX0_requireScalable 21 = .ok (.return_, 1) := by decide +kernel
theorem dX0_turn_0 : decode cX0_turn 0 = .ok (.iload_n 0, 1) := by decide +kernel
theorem dX0_turn_1 : decode cX0_turn 1 = .ok (.bipush 6, 2) := by decide +kernel
theorem dX0_turn_3 : decode cX0_turn 3 = .ok (.imul, 1) := by decide +kernel
theorem dX0_turn_4 : decode cX0_turn 4 = .ok (.iload_n 1, 1) := by decide +kernel
theorem dX0_turn_5 : decode cX0_turn 5 = .ok (.iadd, 1) := by decide +kernel
theorem dX0_turn_6 : decode cX0_turn 6 = .ok (.ireturn, 1) := by decide +kernel
theorem dX0_allArms_0 : decode cX0_allArms 0 = .ok (.iconst 1, 1) := by decide +kernel
theorem dX0_allArms_1 : decode cX0_allArms 1 = .ok (.aload_n 0, 1) := by decide +kernel
theorem dX0_allArms_2 : decode cX0_allArms 2 = .ok (.getfield 46, 3) := by decide +kernel
theorem dX0_allArms_5 : decode cX0_allArms 5 = .ok (.ishl, 1) := by decide +kernel
theorem dX0_allArms_6 : decode cX0_allArms 6 = .ok (.iconst 1, 1) := by decide +kernel
theorem dX0_allArms_7 : decode cX0_allArms 7 = .ok (.isub, 1) := by decide +kernel
theorem dX0_allArms_8 : decode cX0_allArms 8 = .ok (.ireturn, 1) := by decide +kernel
