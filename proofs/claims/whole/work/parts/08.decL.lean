set_option maxRecDepth 20000 in
theorem ggL_setArms_X0_setArms : GoodIn wsL_setArms wsX0_setArms := goodIn_ca (goodIn_ca (goodIn_r _ [6, 7, 8, 9, 5, 10, 11, 12, 13, 14, 15, 16, 17, 18, 19, 20, 21, 22, 23, 24, 25, 26, 27, 28, 29, 30, 31, 32, 33, 34, 35, 36, 37, 38, 39, 40, 41, 42, 43, 44] (by decide +kernel) (by decide +kernel)) (goodIn_sub (fun _ h => List.mem_cons_of_mem _ (List.mem_append_right _ h)) (by decide +kernel))) (goodIn_sub (fun _ h => List.mem_cons_of_mem _ (List.mem_append_left _ (List.mem_append_right _ h))) (by decide +kernel))
set_option maxRecDepth 20000 in
theorem gL_setArms_X0_setArms : GoodIn wsL_setArms (wsV RL 7 RX0 yX0_setArms wsX0_setArms) := goodIn_app (goodIn_of _ (by decide +kernel)) ggL_setArms_X0_setArms
theorem dL_setArms_0 : decode cL_setArms 0 = .ok (.aload_n 2, 1) := by decide +kernel
theorem dL_setArms_1 : decode cL_setArms 1 = .ok (.iconst 0, 1) := by decide +kernel
theorem dL_setArms_2 : decode cL_setArms 2 = .ok (.aload_n 0, 1) := by decide +kernel
theorem dL_setArms_3 : decode cL_setArms 3 = .ok (.iload_n 1, 1) := by decide +kernel
theorem dL_setArms_4 : decode cL_setArms 4 = .ok (.invokevirtual 7, 3) := by decide +kernel
theorem dL_setArms_7 : decode cL_setArms 7 = .ok (.i2l, 1) := by decide +kernel
theorem dL_setArms_8 : decode cL_setArms 8 = .ok (.lastore, 1) := by decide +kernel
theorem dL_setArms_9 : decode cL_setArms 9 = .ok (.goto 6, 3) := by decide +kernel
theorem dL_setArms_12 : decode cL_setArms 12 = .ok (.astore_n 3, 1) := by decide +kernel
theorem dL_setArms_13 : decode cL_setArms 13 = .ok (.iconst 1, 1) := by decide +kernel
theorem dL_setArms_14 : decode cL_setArms 14 = .ok (.ireturn, 1) := by decide +kernel
theorem dL_setArms_15 : decode cL_setArms 15 = .ok (.iconst 0, 1) := by decide +kernel
theorem dL_setArms_16 : decode cL_setArms 16 = .ok (.ireturn, 1) := by decide +kernel
set_option maxRecDepth 20000 in
theorem ggL_setInflow_X0_setInflow : GoodIn wsL_setInflow wsX0_setInflow := goodIn_ca (goodIn_ca (goodIn_ca (goodIn_r _ [7, 8, 9, 10, 11, 6, 12, 13, 14, 15, 16, 17, 18, 19, 20, 21, 22, 23, 24, 25, 26, 27, 28, 29, 30, 31, 32, 33, 34, 35, 36, 37, 38, 39, 40, 41, 42, 43, 44, 45] (by decide +kernel) (by decide +kernel)) (goodIn_sub (fun _ h => List.mem_cons_of_mem _ (List.mem_append_left _ (List.mem_append_left _ (List.mem_append_right _ h)))) (by decide +kernel))) (goodIn_sub (fun _ h => List.mem_cons_of_mem _ (List.mem_append_left _ (List.mem_append_right _ h))) (by decide +kernel))) (goodIn_sub (fun _ h => List.mem_cons_of_mem _ (List.mem_append_right _ h)) (by decide +kernel))
set_option maxRecDepth 20000 in
theorem gL_setInflow_X0_setInflow : GoodIn wsL_setInflow (wsV RL 15 RX0 yX0_setInflow wsX0_setInflow) := goodIn_app (goodIn_of _ (by decide +kernel)) ggL_setInflow_X0_setInflow
theorem dL_setInflow_0 : decode cL_setInflow 0 = .ok (.aload_n 3, 1) := by decide +kernel
theorem dL_setInflow_1 : decode cL_setInflow 1 = .ok (.iconst 0, 1) := by decide +kernel
theorem dL_setInflow_2 : decode cL_setInflow 2 = .ok (.aload_n 0, 1) := by decide +kernel
theorem dL_setInflow_3 : decode cL_setInflow 3 = .ok (.iload_n 1, 1) := by decide +kernel
theorem dL_setInflow_4 : decode cL_setInflow 4 = .ok (.iload_n 2, 1) := by decide +kernel
theorem dL_setInflow_5 : decode cL_setInflow 5 = .ok (.invokevirtual 15, 3) := by decide +kernel
theorem dL_setInflow_8 : decode cL_setInflow 8 = .ok (.i2l, 1) := by decide +kernel
theorem dL_setInflow_9 : decode cL_setInflow 9 = .ok (.lastore, 1) := by decide +kernel
theorem dL_setInflow_10 : decode cL_setInflow 10 = .ok (.goto 11, 3) := by decide +kernel
theorem dL_setInflow_13 : decode cL_setInflow 13 = .ok (.astore 4, 2) := by decide +kernel
theorem dL_setInflow_15 : decode cL_setInflow 15 = .ok (.iconst 1, 1) := by decide +kernel
theorem dL_setInflow_16 : decode cL_setInflow 16 = .ok (.ireturn, 1) := by decide +kernel
theorem dL_setInflow_17 : decode cL_setInflow 17 = .ok (.astore 4, 2) := by decide +kernel
theorem dL_setInflow_19 : decode cL_setInflow 19 = .ok (.iconst 2, 1) := by decide +kernel
theorem dL_setInflow_20 : decode cL_setInflow 20 = .ok (.ireturn, 1) := by decide +kernel
theorem dL_setInflow_21 : decode cL_setInflow 21 = .ok (.iconst 0, 1) := by decide +kernel
theorem dL_setInflow_22 : decode cL_setInflow 22 = .ok (.ireturn, 1) := by decide +kernel
set_option maxRecDepth 20000 in
theorem ggL_setOutflow_X0_setOutflow : GoodIn wsL_setOutflow wsX0_setOutflow := goodIn_ca (goodIn_ca (goodIn_ca (goodIn_r _ [7, 8, 9, 10, 11, 6, 12, 13, 14, 15, 16, 17, 18, 19, 20, 21, 22, 23, 24, 25, 26, 27, 28, 29, 30, 31, 32, 33, 34, 35, 36, 37, 38, 39, 40, 41, 42, 43, 44, 45] (by decide +kernel) (by decide +kernel)) (goodIn_sub (fun _ h => List.mem_cons_of_mem _ (List.mem_append_left _ (List.mem_append_left _ (List.mem_append_right _ h)))) (by decide +kernel))) (goodIn_sub (fun _ h => List.mem_cons_of_mem _ (List.mem_append_left _ (List.mem_append_right _ h))) (by decide +kernel))) (goodIn_sub (fun _ h => List.mem_cons_of_mem _ (List.mem_append_right _ h)) (by decide +kernel))
set_option maxRecDepth 20000 in
theorem gL_setOutflow_X0_setOutflow : GoodIn wsL_setOutflow (wsV RL 21 RX0 yX0_setOutflow wsX0_setOutflow) := goodIn_app (goodIn_of _ (by decide +kernel)) ggL_setOutflow_X0_setOutflow
theorem dL_setOutflow_0 : decode cL_setOutflow 0 = .ok (.aload_n 3, 1) := by decide +kernel
theorem dL_setOutflow_1 : decode cL_setOutflow 1 = .ok (.iconst 0, 1) := by decide +kernel
theorem dL_setOutflow_2 : decode cL_setOutflow 2 = .ok (.aload_n 0, 1) := by decide +kernel
theorem dL_setOutflow_3 : decode cL_setOutflow 3 = .ok (.iload_n 1, 1) := by decide +kernel
theorem dL_setOutflow_4 : decode cL_setOutflow 4 = .ok (.iload_n 2, 1) := by decide +kernel
theorem dL_setOutflow_5 : decode cL_setOutflow 5 = .ok (.invokevirtual 21, 3) := by decide +kernel
theorem dL_setOutflow_8 : decode cL_setOutflow 8 = .ok (.i2l, 1) := by decide +kernel
theorem dL_setOutflow_9 : decode cL_setOutflow 9 = .ok (.lastore, 1) := by decide +kernel
theorem dL_setOutflow_10 : decode cL_setOutflow 10 = .ok (.goto 11, 3) := by decide +kernel
theorem dL_setOutflow_13 : decode cL_setOutflow 13 = .ok (.astore 4, 2) := by decide +kernel
theorem dL_setOutflow_15 : decode cL_setOutflow 15 = .ok (.iconst 1, 1) := by decide +kernel
theorem dL_setOutflow_16 : decode cL_setOutflow 16 = .ok (.ireturn, 1) := by decide +kernel
theorem dL_setOutflow_17 : decode cL_setOutflow 17 = .ok (.astore 4, 2) := by decide +kernel
theorem dL_setOutflow_19 : decode cL_setOutflow 19 = .ok (.iconst 2, 1) := by decide +kernel
theorem dL_setOutflow_20 : decode cL_setOutflow 20 = .ok (.ireturn, 1) := by decide +kernel
theorem dL_setOutflow_21 : decode cL_setOutflow 21 = .ok (.iconst 0, 1) := by decide +kernel
theorem dL_setOutflow_22 : decode cL_setOutflow 22 = .ok (.ireturn, 1) := by decide +kernel
set_option maxRecDepth 20000 in
theorem ggL_setWeight_X0_setWeight : GoodIn wsL_setWeight wsX0_setWeight := goodIn_ca (goodIn_ca (goodIn_ca (goodIn_r _ [7, 8, 9, 10, 11, 6, 12, 13, 14, 15, 16, 17, 18, 19, 20, 21, 22, 23, 24, 25, 26, 27, 28, 29, 30, 31, 32, 33, 34, 35, 36, 37, 38, 39, 40, 41, 42, 43, 44, 45] (by decide +kernel) (by decide +kernel)) (goodIn_sub (fun _ h => List.mem_cons_of_mem _ (List.mem_append_left _ (List.mem_append_left _ (List.mem_append_right _ h)))) (by decide +kernel))) (goodIn_sub (fun _ h => List.mem_cons_of_mem _ (List.mem_append_left _ (List.mem_append_right _ h))) (by decide +kernel))) (goodIn_sub (fun _ h => List.mem_cons_of_mem _ (List.mem_append_right _ h)) (by decide +kernel))
set_option maxRecDepth 20000 in
theorem gL_setWeight_X0_setWeight : GoodIn wsL_setWeight (wsV RL 24 RX0 yX0_setWeight wsX0_setWeight) := goodIn_app (goodIn_of _ (by decide +kernel)) ggL_setWeight_X0_setWeight
theorem dL_setWeight_0 : decode cL_setWeight 0 = .ok (.aload 4, 2) := by decide +kernel
theorem dL_setWeight_2 : decode cL_setWeight 2 = .ok (.iconst 0, 1) := by decide +kernel
theorem dL_setWeight_3 : decode cL_setWeight 3 = .ok (.aload_n 0, 1) := by decide +kernel
theorem dL_setWeight_4 : decode cL_setWeight 4 = .ok (.iload_n 1, 1) := by decide +kernel
theorem dL_setWeight_5 : decode cL_setWeight 5 = .ok (.iload_n 2, 1) := by decide +kernel
theorem dL_setWeight_6 : decode cL_setWeight 6 = .ok (.iload_n 3, 1) := by decide +kernel
theorem dL_setWeight_7 : decode cL_setWeight 7 = .ok (.invokevirtual 24, 3) := by decide +kernel
theorem dL_setWeight_10 : decode cL_setWeight 10 = .ok (.i2l, 1) := by decide +kernel
theorem dL_setWeight_11 : decode cL_setWeight 11 = .ok (.lastore, 1) := by decide +kernel
theorem dL_setWeight_12 : decode cL_setWeight 12 = .ok (.goto 11, 3) := by decide +kernel
theorem dL_setWeight_15 : decode cL_setWeight 15 = .ok (.astore 5, 2) := by decide +kernel
theorem dL_setWeight_17 : decode cL_setWeight 17 = .ok (.iconst 1, 1) := by decide +kernel
theorem dL_setWeight_18 : decode cL_setWeight 18 = .ok (.ireturn, 1) := by decide +kernel
theorem dL_setWeight_19 : decode cL_setWeight 19 = .ok (.astore 5, 2) := by decide +kernel
theorem dL_setWeight_21 : decode cL_setWeight 21 = .ok (.iconst 2, 1) := by decide +kernel
theorem dL_setWeight_22 : decode cL_setWeight 22 = .ok (.ireturn, 1) := by decide +kernel
theorem dL_setWeight_23 : decode cL_setWeight 23 = .ok (.iconst 0, 1) := by decide +kernel
theorem dL_setWeight_24 : decode cL_setWeight 24 = .ok (.ireturn, 1) := by decide +kernel
set_option maxRecDepth 20000 in
theorem ggL_scale_X0_scale : GoodIn wsL_scale wsX0_scale := goodIn_ca (goodIn_ca (goodIn_ca (goodIn_r _ [7, 8, 9, 10, 11, 12, 6, 13, 14, 15, 16, 17, 18, 19, 20, 21, 22, 23, 24, 25, 26, 27, 28, 29, 30, 31, 32, 33, 34, 35, 36, 37, 38, 39, 40, 41, 42, 43, 44, 45, 46, 47, 48] (by decide +kernel) (by decide +kernel)) (goodIn_sub (fun _ h => List.mem_cons_of_mem _ (List.mem_append_left _ (List.mem_append_left _ (List.mem_append_right _ h)))) (by decide +kernel))) (goodIn_sub (fun _ h => List.mem_cons_of_mem _ (List.mem_append_left _ (List.mem_append_right _ h))) (by decide +kernel))) (goodIn_sub (fun _ h => List.mem_cons_of_mem _ (List.mem_append_right _ h)) (by decide +kernel))
set_option maxRecDepth 20000 in
theorem gL_scale_X0_scale : GoodIn wsL_scale (wsV RL 28 RX0 yX0_scale wsX0_scale) := goodIn_app (goodIn_of _ (by decide +kernel)) ggL_scale_X0_scale
theorem dL_scale_0 : decode cL_scale 0 = .ok (.aload_n 2, 1) := by decide +kernel
theorem dL_scale_1 : decode cL_scale 1 = .ok (.iconst 0, 1) := by decide +kernel
theorem dL_scale_2 : decode cL_scale 2 = .ok (.aload_n 0, 1) := by decide +kernel
theorem dL_scale_3 : decode cL_scale 3 = .ok (.iload_n 1, 1) := by decide +kernel
theorem dL_scale_4 : decode cL_scale 4 = .ok (.invokevirtual 28, 3) := by decide +kernel
theorem dL_scale_7 : decode cL_scale 7 = .ok (.i2l, 1) := by decide +kernel
theorem dL_scale_8 : decode cL_scale 8 = .ok (.lastore, 1) := by decide +kernel
theorem dL_scale_9 : decode cL_scale 9 = .ok (.goto 9, 3) := by decide +kernel
theorem dL_scale_12 : decode cL_scale 12 = .ok (.astore_n 3, 1) := by decide +kernel
theorem dL_scale_13 : decode cL_scale 13 = .ok (.iconst 1, 1) := by decide +kernel
theorem dL_scale_14 : decode cL_scale 14 = .ok (.ireturn, 1) := by decide +kernel
theorem dL_scale_15 : decode cL_scale 15 = .ok (.astore_n 3, 1) := by decide +kernel
theorem dL_scale_16 : decode cL_scale 16 = .ok (.iconst 2, 1) := by decide +kernel
theorem dL_scale_17 : decode cL_scale 17 = .ok (.ireturn, 1) := by decide +kernel
theorem dL_scale_18 : decode cL_scale 18 = .ok (.iconst 0, 1) := by decide +kernel
theorem dL_scale_19 : decode cL_scale 19 = .ok (.ireturn, 1) := by decide +kernel
set_option maxRecDepth 20000 in
theorem ggL_excess_X0_excess : GoodIn wsL_excess wsX0_excess := goodIn_ca (goodIn_ca (goodIn_r _ [6, 7, 8, 9, 10, 5, 11, 12, 13, 14, 15, 16, 17, 18, 19, 20, 21, 22, 23, 24, 25, 26, 27, 28, 29, 30, 31, 32, 33, 34, 35, 36, 37, 38, 39, 40, 41] (by decide +kernel) (by decide +kernel)) (goodIn_sub (fun _ h => List.mem_cons_of_mem _ (List.mem_append_right _ h)) (by decide +kernel))) (goodIn_sub (fun _ h => List.mem_cons_of_mem _ (List.mem_append_left _ (List.mem_append_right _ h))) (by decide +kernel))
set_option maxRecDepth 20000 in
theorem gL_excess_X0_excess : GoodIn wsL_excess (wsV RL 33 RX0 yX0_excess wsX0_excess) := goodIn_app (goodIn_of _ (by decide +kernel)) ggL_excess_X0_excess
theorem dL_excess_0 : decode cL_excess 0 = .ok (.aload_n 2, 1) := by decide +kernel
theorem dL_excess_1 : decode cL_excess 1 = .ok (.iconst 0, 1) := by decide +kernel
theorem dL_excess_2 : decode cL_excess 2 = .ok (.aload_n 0, 1) := by decide +kernel
theorem dL_excess_3 : decode cL_excess 3 = .ok (.iload_n 1, 1) := by decide +kernel
theorem dL_excess_4 : decode cL_excess 4 = .ok (.invokevirtual 33, 3) := by decide +kernel
theorem dL_excess_7 : decode cL_excess 7 = .ok (.i2l, 1) := by decide +kernel
theorem dL_excess_8 : decode cL_excess 8 = .ok (.lastore, 1) := by decide +kernel
theorem dL_excess_9 : decode cL_excess 9 = .ok (.goto 6, 3) := by decide +kernel
theorem dL_excess_12 : decode cL_excess 12 = .ok (.astore_n 3, 1) := by decide +kernel
theorem dL_excess_13 : decode cL_excess 13 = .ok (.iconst 1, 1) := by decide +kernel
theorem dL_excess_14 : decode cL_excess 14 = .ok (.ireturn, 1) := by decide +kernel
theorem dL_excess_15 : decode cL_excess 15 = .ok (.iconst 0, 1) := by decide +kernel
theorem dL_excess_16 : decode cL_excess 16 = .ok (.ireturn, 1) := by decide +kernel
set_option maxRecDepth 20000 in
theorem ggL_iterate_X0_iterate : GoodIn wsL_iterate wsX0_iterate := goodIn_ca (goodIn_ca (goodIn_r _ [6, 7, 8, 9, 5, 10, 11, 12, 13, 14, 15, 16, 17, 18, 19, 20, 21, 22, 23, 24, 25, 26, 27, 28, 29, 30, 31, 32, 33, 34, 35, 36, 37, 38, 39, 40, 41, 42, 43, 44, 45, 46, 47, 48, 49, 50] (by decide +kernel) (by decide +kernel)) (goodIn_sub (fun _ h => List.mem_cons_of_mem _ (List.mem_append_right _ h)) (by decide +kernel))) (goodIn_sub (fun _ h => List.mem_cons_of_mem _ (List.mem_append_left _ (List.mem_append_right _ h))) (by decide +kernel))
set_option maxRecDepth 20000 in
theorem gL_iterate_X0_iterate : GoodIn wsL_iterate (wsV RL 36 RX0 yX0_iterate wsX0_iterate) := goodIn_app (goodIn_of _ (by decide +kernel)) ggL_iterate_X0_iterate
theorem dL_iterate_0 : decode cL_iterate 0 = .ok (.aload_n 2, 1) := by decide +kernel
theorem dL_iterate_1 : decode cL_iterate 1 = .ok (.iconst 0, 1) := by decide +kernel
theorem dL_iterate_2 : decode cL_iterate 2 = .ok (.aload_n 0, 1) := by decide +kernel
theorem dL_iterate_3 : decode cL_iterate 3 = .ok (.iload_n 1, 1) := by decide +kernel
theorem dL_iterate_4 : decode cL_iterate 4 = .ok (.invokevirtual 36, 3) := by decide +kernel
theorem dL_iterate_7 : decode cL_iterate 7 = .ok (.i2l, 1) := by decide +kernel
theorem dL_iterate_8 : decode cL_iterate 8 = .ok (.lastore, 1) := by decide +kernel
theorem dL_iterate_9 : decode cL_iterate 9 = .ok (.goto 6, 3) := by decide +kernel
theorem dL_iterate_12 : decode cL_iterate 12 = .ok (.astore_n 3, 1) := by decide +kernel
theorem dL_iterate_13 : decode cL_iterate 13 = .ok (.iconst 1, 1) := by decide +kernel
theorem dL_iterate_14 : decode cL_iterate 14 = .ok (.ireturn, 1) := by decide +kernel
theorem dL_iterate_15 : decode cL_iterate 15 = .ok (.iconst 0, 1) := by decide +kernel
theorem dL_iterate_16 : decode cL_iterate 16 = .ok (.ireturn, 1) := by decide +kernel
set_option maxRecDepth 20000 in
theorem ggL_fit_X0_fit : GoodIn wsL_fit wsX0_fit := goodIn_ca (goodIn_ca (goodIn_r _ [6, 7, 8, 9, 10, 5, 11, 12, 13, 14, 15, 16, 17, 18, 19, 20, 21, 22, 23, 24, 25, 26, 27, 28, 29, 30, 31, 32, 33, 34, 35, 36, 37, 38, 39, 40, 41, 42, 43, 44, 45, 46, 47, 48, 49, 50, 51, 52, 53, 54, 55, 56, 57, 58, 59] (by decide +kernel) (by decide +kernel)) (goodIn_sub (fun _ h => List.mem_cons_of_mem _ (List.mem_append_right _ h)) (by decide +kernel))) (goodIn_sub (fun _ h => List.mem_cons_of_mem _ (List.mem_append_left _ (List.mem_append_right _ h))) (by decide +kernel))
set_option maxRecDepth 20000 in
theorem gL_fit_X0_fit : GoodIn wsL_fit (wsV RL 39 RX0 yX0_fit wsX0_fit) := goodIn_app (goodIn_of _ (by decide +kernel)) ggL_fit_X0_fit
theorem dL_fit_0 : decode cL_fit 0 = .ok (.aload_n 3, 1) := by decide +kernel
theorem dL_fit_1 : decode cL_fit 1 = .ok (.iconst 0, 1) := by decide +kernel
theorem dL_fit_2 : decode cL_fit 2 = .ok (.aload_n 0, 1) := by decide +kernel
theorem dL_fit_3 : decode cL_fit 3 = .ok (.iload_n 1, 1) := by decide +kernel
theorem dL_fit_4 : decode cL_fit 4 = .ok (.iload_n 2, 1) := by decide +kernel
theorem dL_fit_5 : decode cL_fit 5 = .ok (.invokevirtual 39, 3) := by decide +kernel
theorem dL_fit_8 : decode cL_fit 8 = .ok (.i2l, 1) := by decide +kernel
theorem dL_fit_9 : decode cL_fit 9 = .ok (.lastore, 1) := by decide +kernel
theorem dL_fit_10 : decode cL_fit 10 = .ok (.goto 7, 3) := by decide +kernel
theorem dL_fit_13 : decode cL_fit 13 = .ok (.astore 4, 2) := by decide +kernel
theorem dL_fit_15 : decode cL_fit 15 = .ok (.iconst 1, 1) := by decide +kernel
theorem dL_fit_16 : decode cL_fit 16 = .ok (.ireturn, 1) := by decide +kernel
theorem dL_fit_17 : decode cL_fit 17 = .ok (.iconst 0, 1) := by decide +kernel
theorem dL_fit_18 : decode cL_fit 18 = .ok (.ireturn, 1) := by decide +kernel
set_option maxRecDepth 20000 in
theorem ggL_estimate_X0_estimate : GoodIn wsL_estimate wsX0_estimate := goodIn_ca (goodIn_ca (goodIn_r _ [6, 7, 8, 9, 10, 5, 11, 12, 13, 14, 15, 16, 17, 18, 19, 20, 21, 22, 23, 24, 25, 26, 27, 28] (by decide +kernel) (by decide +kernel)) (goodIn_sub (fun _ h => List.mem_cons_of_mem _ (List.mem_append_left _ (List.mem_append_right _ h))) (by decide +kernel))) (goodIn_sub (fun _ h => List.mem_cons_of_mem _ (List.mem_append_right _ h)) (by decide +kernel))
set_option maxRecDepth 20000 in
theorem gL_estimate_X0_estimate : GoodIn wsL_estimate (wsV RL 42 RX0 yX0_estimate wsX0_estimate) := goodIn_app (goodIn_of _ (by decide +kernel)) ggL_estimate_X0_estimate
theorem dL_estimate_0 : decode cL_estimate 0 = .ok (.aload_n 3, 1) := by decide +kernel
theorem dL_estimate_1 : decode cL_estimate 1 = .ok (.iconst 0, 1) := by decide +kernel
theorem dL_estimate_2 : decode cL_estimate 2 = .ok (.aload_n 0, 1) := by decide +kernel
theorem dL_estimate_3 : decode cL_estimate 3 = .ok (.iload_n 1, 1) := by decide +kernel
theorem dL_estimate_4 : decode cL_estimate 4 = .ok (.iload_n 2, 1) := by decide +kernel
theorem dL_estimate_5 : decode cL_estimate 5 = .ok (.invokevirtual 42, 3) := by decide +kernel
theorem dL_estimate_8 : decode cL_estimate 8 = .ok (.dastore, 1) := by decide +kernel
theorem dL_estimate_9 : decode cL_estimate 9 = .ok (.goto 7, 3) := by decide +kernel
theorem dL_estimate_12 : decode cL_estimate 12 = .ok (.astore 4, 2) := by decide +kernel
theorem dL_estimate_14 : decode cL_estimate 14 = .ok (.iconst 1, 1) := by decide +kernel
theorem dL_estimate_15 : decode cL_estimate 15 = .ok (.ireturn, 1) := by decide +kernel
theorem dL_estimate_16 : decode cL_estimate 16 = .ok (.iconst 0, 1) := by decide +kernel
theorem dL_estimate_17 : decode cL_estimate 17 = .ok (.ireturn, 1) := by decide +kernel
set_option maxRecDepth 20000 in
theorem ggL_sum_X0_sum : GoodIn wsL_sum wsX0_sum := goodIn_ca (goodIn_ca (goodIn_r _ [6, 7, 8, 9, 5, 10, 11, 12, 13, 14, 15, 16, 17, 18, 19, 20, 21, 22, 23, 24, 25, 26, 27, 28, 29, 30, 31, 32, 33, 34, 35, 36] (by decide +kernel) (by decide +kernel)) (goodIn_sub (fun _ h => List.mem_cons_of_mem _ (List.mem_append_right _ h)) (by decide +kernel))) (goodIn_sub (fun _ h => List.mem_cons_of_mem _ (List.mem_append_left _ (List.mem_append_right _ h))) (by decide +kernel))
set_option maxRecDepth 20000 in
theorem gL_sum_X0_sum : GoodIn wsL_sum (wsV RL 46 RX0 yX0_sum wsX0_sum) := goodIn_app (goodIn_of _ (by decide +kernel)) ggL_sum_X0_sum
theorem dL_sum_0 : decode cL_sum 0 = .ok (.aload_n 3, 1) := by decide +kernel
theorem dL_sum_1 : decode cL_sum 1 = .ok (.iconst 0, 1) := by decide +kernel
theorem dL_sum_2 : decode cL_sum 2 = .ok (.aload_n 0, 1) := by decide +kernel
theorem dL_sum_3 : decode cL_sum 3 = .ok (.iload_n 1, 1) := by decide +kernel
theorem dL_sum_4 : decode cL_sum 4 = .ok (.iload_n 2, 1) := by decide +kernel
theorem dL_sum_5 : decode cL_sum 5 = .ok (.invokevirtual 46, 3) := by decide +kernel
theorem dL_sum_8 : decode cL_sum 8 = .ok (.dastore, 1) := by decide +kernel
theorem dL_sum_9 : decode cL_sum 9 = .ok (.goto 7, 3) := by decide +kernel
theorem dL_sum_12 : decode cL_sum 12 = .ok (.astore 4, 2) := by decide +kernel
theorem dL_sum_14 : decode cL_sum 14 = .ok (.iconst 1, 1) := by decide +kernel
theorem dL_sum_15 : decode cL_sum 15 = .ok (.ireturn, 1) := by decide +kernel
theorem dL_sum_16 : decode cL_sum 16 = .ok (.iconst 0, 1) := by decide +kernel
theorem dL_sum_17 : decode cL_sum 17 = .ok (.ireturn, 1) := by decide +kernel
set_option maxRecDepth 20000 in
theorem ggL_share_X0_share : GoodIn wsL_share wsX0_share := goodIn_ca (goodIn_ca (goodIn_r _ [6, 7, 8, 9, 10, 5, 11, 12, 13, 14, 15, 16, 17, 18, 19, 20, 21, 22, 23, 24, 25, 26, 27, 28, 29, 30, 31, 32] (by decide +kernel) (by decide +kernel)) (goodIn_sub (fun _ h => List.mem_cons_of_mem _ (List.mem_append_left _ (List.mem_append_right _ h))) (by decide +kernel))) (goodIn_sub (fun _ h => List.mem_cons_of_mem _ (List.mem_append_right _ h)) (by decide +kernel))
set_option maxRecDepth 20000 in
theorem gL_share_X0_share : GoodIn wsL_share (wsV RL 50 RX0 yX0_share wsX0_share) := goodIn_app (goodIn_of _ (by decide +kernel)) ggL_share_X0_share
theorem dL_share_0 : decode cL_share 0 = .ok (.aload_n 3, 1) := by decide +kernel
theorem dL_share_1 : decode cL_share 1 = .ok (.iconst 0, 1) := by decide +kernel
theorem dL_share_2 : decode cL_share 2 = .ok (.aload_n 0, 1) := by decide +kernel
theorem dL_share_3 : decode cL_share 3 = .ok (.iload_n 1, 1) := by decide +kernel
theorem dL_share_4 : decode cL_share 4 = .ok (.iload_n 2, 1) := by decide +kernel
theorem dL_share_5 : decode cL_share 5 = .ok (.invokevirtual 50, 3) := by decide +kernel
theorem dL_share_8 : decode cL_share 8 = .ok (.dastore, 1) := by decide +kernel
theorem dL_share_9 : decode cL_share 9 = .ok (.goto 7, 3) := by decide +kernel
theorem dL_share_12 : decode cL_share 12 = .ok (.astore 4, 2) := by decide +kernel
theorem dL_share_14 : decode cL_share 14 = .ok (.iconst 1, 1) := by decide +kernel
theorem dL_share_15 : decode cL_share 15 = .ok (.ireturn, 1) := by decide +kernel
theorem dL_share_16 : decode cL_share 16 = .ok (.iconst 0, 1) := by decide +kernel
theorem dL_share_17 : decode cL_share 17 = .ok (.ireturn, 1) := by decide +kernel
set_option maxRecDepth 20000 in
theorem ggL_crossRatio_X0_crossRatio : GoodIn wsL_crossRatio wsX0_crossRatio := goodIn_ca (goodIn_ca (goodIn_ca (goodIn_r _ [7, 8, 9, 10, 11, 12, 13, 6, 14, 15, 16, 17, 18, 19, 20, 21, 22, 23, 24, 25, 26, 27, 28, 29, 30, 31] (by decide +kernel) (by decide +kernel)) (goodIn_sub (fun _ h => List.mem_cons_of_mem _ (List.mem_append_left _ (List.mem_append_left _ (List.mem_append_right _ h)))) (by decide +kernel))) (goodIn_sub (fun _ h => List.mem_cons_of_mem _ (List.mem_append_left _ (List.mem_append_right _ h))) (by decide +kernel))) (goodIn_sub (fun _ h => List.mem_cons_of_mem _ (List.mem_append_right _ h)) (by decide +kernel))
set_option maxRecDepth 20000 in
theorem gL_crossRatio_X0_crossRatio : GoodIn wsL_crossRatio (wsV RL 53 RX0 yX0_crossRatio wsX0_crossRatio) := goodIn_app (goodIn_of _ (by decide +kernel)) ggL_crossRatio_X0_crossRatio
theorem dL_crossRatio_0 : decode cL_crossRatio 0 = .ok (.aload 5, 2) := by decide +kernel
theorem dL_crossRatio_2 : decode cL_crossRatio 2 = .ok (.iconst 0, 1) := by decide +kernel
theorem dL_crossRatio_3 : decode cL_crossRatio 3 = .ok (.aload_n 0, 1) := by decide +kernel
theorem dL_crossRatio_4 : decode cL_crossRatio 4 = .ok (.iload_n 1, 1) := by decide +kernel
theorem dL_crossRatio_5 : decode cL_crossRatio 5 = .ok (.iload_n 2, 1) := by decide +kernel
theorem dL_crossRatio_6 : decode cL_crossRatio 6 = .ok (.iload_n 3, 1) := by decide +kernel
theorem dL_crossRatio_7 : decode cL_crossRatio 7 = .ok (.iload 4, 2) := by decide +kernel
theorem dL_crossRatio_9 : decode cL_crossRatio 9 = .ok (.invokevirtual 53, 3) := by decide +kernel
theorem dL_crossRatio_12 : decode cL_crossRatio 12 = .ok (.dastore, 1) := by decide +kernel
theorem dL_crossRatio_13 : decode cL_crossRatio 13 = .ok (.goto 11, 3) := by decide +kernel
theorem dL_crossRatio_16 : decode cL_crossRatio 16 = .ok (.astore 6, 2) := by decide +kernel
theorem dL_crossRatio_18 : decode cL_crossRatio 18 = .ok (.iconst 1, 1) := by decide +kernel
theorem dL_crossRatio_19 : decode cL_crossRatio 19 = .ok (.ireturn, 1) := by decide +kernel
theorem dL_crossRatio_20 : decode cL_crossRatio 20 = .ok (.astore 6, 2) := by decide +kernel
theorem dL_crossRatio_22 : decode cL_crossRatio 22 = .ok (.iconst 2, 1) := by decide +kernel
theorem dL_crossRatio_23 : decode cL_crossRatio 23 = .ok (.ireturn, 1) := by decide +kernel
theorem dL_crossRatio_24 : decode cL_crossRatio 24 = .ok (.iconst 0, 1) := by decide +kernel
theorem dL_crossRatio_25 : decode cL_crossRatio 25 = .ok (.ireturn, 1) := by decide +kernel
set_option maxRecDepth 20000 in
theorem ggL_rounded_X0_rounded : GoodIn wsL_rounded wsX0_rounded := goodIn_ca (goodIn_ca (goodIn_r _ [6, 7, 8, 9, 10, 5, 11, 12, 13, 14, 15, 16, 17, 18, 19, 20, 21, 22, 23, 24, 25, 26, 27, 28, 29, 30, 31, 32, 33, 34, 35, 36, 37, 38, 39, 40, 41, 42, 43, 44, 45, 46, 47, 48, 49, 50, 51, 52, 53, 54, 55, 56, 57, 58, 59, 60] (by decide +kernel) (by decide +kernel)) (goodIn_sub (fun _ h => List.mem_cons_of_mem _ (List.mem_append_left _ (List.mem_append_right _ h))) (by decide +kernel))) (goodIn_sub (fun _ h => List.mem_cons_of_mem _ (List.mem_append_right _ h)) (by decide +kernel))
set_option maxRecDepth 20000 in
theorem gL_rounded_X0_rounded : GoodIn wsL_rounded (wsV RL 59 RX0 yX0_rounded wsX0_rounded) := goodIn_app (goodIn_of _ (by decide +kernel)) ggL_rounded_X0_rounded
theorem dL_rounded_0 : decode cL_rounded 0 = .ok (.aload_n 3, 1) := by decide +kernel
theorem dL_rounded_1 : decode cL_rounded 1 = .ok (.iconst 0, 1) := by decide +kernel
theorem dL_rounded_2 : decode cL_rounded 2 = .ok (.aload_n 0, 1) := by decide +kernel
theorem dL_rounded_3 : decode cL_rounded 3 = .ok (.iload_n 1, 1) := by decide +kernel
theorem dL_rounded_4 : decode cL_rounded 4 = .ok (.iload_n 2, 1) := by decide +kernel
theorem dL_rounded_5 : decode cL_rounded 5 = .ok (.invokevirtual 59, 3) := by decide +kernel
theorem dL_rounded_8 : decode cL_rounded 8 = .ok (.i2l, 1) := by decide +kernel
theorem dL_rounded_9 : decode cL_rounded 9 = .ok (.lastore, 1) := by decide +kernel
theorem dL_rounded_10 : decode cL_rounded 10 = .ok (.goto 7, 3) := by decide +kernel
theorem dL_rounded_13 : decode cL_rounded 13 = .ok (.astore 4, 2) := by decide +kernel
theorem dL_rounded_15 : decode cL_rounded 15 = .ok (.iconst 1, 1) := by decide +kernel
theorem dL_rounded_16 : decode cL_rounded 16 = .ok (.ireturn, 1) := by decide +kernel
theorem dL_rounded_17 : decode cL_rounded 17 = .ok (.iconst 0, 1) := by decide +kernel
theorem dL_rounded_18 : decode cL_rounded 18 = .ok (.ireturn, 1) := by decide +kernel
set_option maxRecDepth 20000 in
theorem ggL_possible_X0_possible : GoodIn wsL_possible wsX0_possible := goodIn_ca (goodIn_ca (goodIn_r _ [6, 7, 8, 9, 10, 5, 11, 12, 13, 14, 15, 16, 17, 18, 19, 20, 21, 22, 23, 24, 25, 26, 27, 28, 29, 30, 31, 32, 33, 34, 35, 36, 37, 38, 39, 40, 41, 42, 43, 44, 45, 46, 47, 48, 49, 50, 51, 52, 53, 54, 55, 56, 57, 58, 59, 60, 61, 62, 63, 64, 65, 66, 67, 68, 69, 70, 71, 72, 73, 74, 75, 76, 77, 78, 79, 80, 81, 82, 83] (by decide +kernel) (by decide +kernel)) (goodIn_sub (fun _ h => List.mem_cons_of_mem _ (List.mem_append_left _ (List.mem_append_right _ h))) (by decide +kernel))) (goodIn_sub (fun _ h => List.mem_cons_of_mem _ (List.mem_append_right _ h)) (by decide +kernel))
set_option maxRecDepth 20000 in
theorem gL_possible_X0_possible : GoodIn wsL_possible (wsV RL 62 RX0 yX0_possible wsX0_possible) := goodIn_app (goodIn_of _ (by decide +kernel)) ggL_possible_X0_possible
theorem dL_possible_0 : decode cL_possible 0 = .ok (.aload_n 3, 1) := by decide +kernel
theorem dL_possible_1 : decode cL_possible 1 = .ok (.iconst 0, 1) := by decide +kernel
theorem dL_possible_2 : decode cL_possible 2 = .ok (.aload_n 0, 1) := by decide +kernel
theorem dL_possible_3 : decode cL_possible 3 = .ok (.iload_n 1, 1) := by decide +kernel
theorem dL_possible_4 : decode cL_possible 4 = .ok (.iload_n 2, 1) := by decide +kernel
theorem dL_possible_5 : decode cL_possible 5 = .ok (.invokevirtual 62, 3) := by decide +kernel
theorem dL_possible_8 : decode cL_possible 8 = .ok (.i2l, 1) := by decide +kernel
theorem dL_possible_9 : decode cL_possible 9 = .ok (.lastore, 1) := by decide +kernel
theorem dL_possible_10 : decode cL_possible 10 = .ok (.goto 7, 3) := by decide +kernel
theorem dL_possible_13 : decode cL_possible 13 = .ok (.astore 4, 2) := by decide +kernel
theorem dL_possible_15 : decode cL_possible 15 = .ok (.iconst 1, 1) := by decide +kernel
theorem dL_possible_16 : decode cL_possible 16 = .ok (.ireturn, 1) := by decide +kernel
theorem dL_possible_17 : decode cL_possible 17 = .ok (.iconst 0, 1) := by decide +kernel
theorem dL_possible_18 : decode cL_possible 18 = .ok (.ireturn, 1) := by decide +kernel
