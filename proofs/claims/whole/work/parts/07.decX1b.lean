set_option maxRecDepth 20000 in
theorem ggX1_sum_X1_isArm : GoodIn wsX1_sum wsX1_isArm := goodIn_r _ [6, 7, 8, 9, 5, 10, 20, 21, 22, 23, 24, 25, 26, 27, 28, 29, 30, 31, 32] (by decide +kernel) (by decide +kernel)
set_option maxRecDepth 20000 in
theorem gX1_sum_X1_isArm : GoodIn wsX1_sum (wsV RX1 58 RX1 yX1_isArm wsX1_isArm) := goodIn_app (goodIn_of _ (by decide +kernel)) ggX1_sum_X1_isArm
set_option maxRecDepth 20000 in
theorem ggX1_sum_X1_columnSum : GoodIn wsX1_sum wsX1_columnSum := goodIn_ca (goodIn_r _ [14, 7, 15, 20, 21, 22, 23, 24, 25, 26, 27, 28, 29, 30, 31, 32] (by decide +kernel) (by decide +kernel)) (goodIn_sub (fun _ h => List.mem_cons_of_mem _ (List.mem_append_right _ h)) (by decide +kernel))
set_option maxRecDepth 20000 in
theorem gX1_sum_X1_columnSum : GoodIn wsX1_sum (wsV RX1 88 RX1 yX1_columnSum wsX1_columnSum) := goodIn_app (goodIn_of _ (by decide +kernel)) ggX1_sum_X1_columnSum
set_option maxRecDepth 20000 in
theorem ggX1_sum_X1_rowSum : GoodIn wsX1_sum wsX1_rowSum := goodIn_ca (goodIn_r _ [19, 7, 15, 20, 21, 22, 23, 24, 25, 26, 27, 28, 29, 30, 31, 32] (by decide +kernel) (by decide +kernel)) (goodIn_sub (fun _ h => List.mem_cons_of_mem _ (List.mem_append_right _ h)) (by decide +kernel))
set_option maxRecDepth 20000 in
theorem gX1_sum_X1_rowSum : GoodIn wsX1_sum (wsV RX1 84 RX1 yX1_rowSum wsX1_rowSum) := goodIn_app (goodIn_of _ (by decide +kernel)) ggX1_sum_X1_rowSum
theorem dX1_sum_0 : decode cX1_sum 0 = .ok (.aload_n 0, 1) := by decide +kernel
theorem dX1_sum_1 : decode cX1_sum 1 = .ok (.aload_n 0, 1) := by decide +kernel
theorem dX1_sum_2 : decode cX1_sum 2 = .ok (.iload_n 1, 1) := by decide +kernel
theorem dX1_sum_3 : decode cX1_sum 3 = .ok (.invokevirtual 58, 3) := by decide +kernel
theorem dX1_sum_6 : decode cX1_sum 6 = .ok (.ifCond .eq 7, 3) := by decide +kernel
theorem dX1_sum_9 : decode cX1_sum 9 = .ok (.iconst 0, 1) := by decide +kernel
theorem dX1_sum_10 : decode cX1_sum 10 = .ok (.goto 4, 3) := by decide +kernel
theorem dX1_sum_13 : decode cX1_sum 13 = .ok (.iconst 1, 1) := by decide +kernel
theorem dX1_sum_14 : decode cX1_sum 14 = .ok (.putfield 45, 3) := by decide +kernel
theorem dX1_sum_17 : decode cX1_sum 17 = .ok (.aload_n 0, 1) := by decide +kernel
theorem dX1_sum_18 : decode cX1_sum 18 = .ok (.getfield 45, 3) := by decide +kernel
theorem dX1_sum_21 : decode cX1_sum 21 = .ok (.ifCond .le 7, 3) := by decide +kernel
theorem dX1_sum_24 : decode cX1_sum 24 = .ok (.dconst 0, 1) := by decide +kernel
theorem dX1_sum_25 : decode cX1_sum 25 = .ok (.goto 20, 3) := by decide +kernel
theorem dX1_sum_28 : decode cX1_sum 28 = .ok (.iload_n 2, 1) := by decide +kernel
theorem dX1_sum_29 : decode cX1_sum 29 = .ok (.ifCond .eq 11, 3) := by decide +kernel
theorem dX1_sum_32 : decode cX1_sum 32 = .ok (.aload_n 0, 1) := by decide +kernel
theorem dX1_sum_33 : decode cX1_sum 33 = .ok (.iload_n 1, 1) := by decide +kernel
theorem dX1_sum_34 : decode cX1_sum 34 = .ok (.invokevirtual 88, 3) := by decide +kernel
theorem dX1_sum_37 : decode cX1_sum 37 = .ok (.goto 8, 3) := by decide +kernel
theorem dX1_sum_40 : decode cX1_sum 40 = .ok (.aload_n 0, 1) := by decide +kernel
theorem dX1_sum_41 : decode cX1_sum 41 = .ok (.iload_n 1, 1) := by decide +kernel
theorem dX1_sum_42 : decode cX1_sum 42 = .ok (.invokevirtual 84, 3) := by decide +kernel
theorem dX1_sum_45 : decode cX1_sum 45 = .ok (.dreturn, 1) := by decide +kernel
set_option maxRecDepth 20000 in
theorem ggX1_misfit_X1_misfitNow : GoodIn wsX1_misfit wsX1_misfitNow := goodIn_ca (goodIn_r _ [6, 7, 8, 9, 10, 11, 12, 5, 13, 14, 15, 16, 17, 18, 19, 20, 21, 22, 23, 24, 25, 26, 27, 28, 29, 30, 31, 32, 33, 34] (by decide +kernel) (by decide +kernel)) (goodIn_sub (fun _ h => List.mem_cons_of_mem _ (List.mem_append_right _ h)) (by decide +kernel))
set_option maxRecDepth 20000 in
theorem gX1_misfit_X1_misfitNow : GoodIn wsX1_misfit (wsV RX1 106 RX1 yX1_misfitNow wsX1_misfitNow) := goodIn_app (goodIn_of _ (by decide +kernel)) ggX1_misfit_X1_misfitNow
theorem dX1_misfit_0 : decode cX1_misfit 0 = .ok (.aload_n 0, 1) := by decide +kernel
theorem dX1_misfit_1 : decode cX1_misfit 1 = .ok (.iconst 0, 1) := by decide +kernel
theorem dX1_misfit_2 : decode cX1_misfit 2 = .ok (.putfield 45, 3) := by decide +kernel
theorem dX1_misfit_5 : decode cX1_misfit 5 = .ok (.aload_n 0, 1) := by decide +kernel
theorem dX1_misfit_6 : decode cX1_misfit 6 = .ok (.invokevirtual 106, 3) := by decide +kernel
theorem dX1_misfit_9 : decode cX1_misfit 9 = .ok (.dreturn, 1) := by decide +kernel
set_option maxRecDepth 20000 in
theorem ggX1_share_X1_areArms : GoodIn wsX1_share wsX1_areArms := goodIn_r _ [7, 8, 9, 10, 6, 11, 12, 13, 14, 15, 20, 21, 22, 23, 24, 25, 26, 27, 28, 29, 30, 31, 32] (by decide +kernel) (by decide +kernel)
set_option maxRecDepth 20000 in
theorem gX1_share_X1_areArms : GoodIn wsX1_share (wsV RX1 112 RX1 yX1_areArms wsX1_areArms) := goodIn_app (goodIn_of _ (by decide +kernel)) ggX1_share_X1_areArms
set_option maxRecDepth 20000 in
theorem ggX1_share_X1_rowSum : GoodIn wsX1_share wsX1_rowSum := goodIn_ca (goodIn_r _ [19, 12, 2, 20, 21, 22, 23, 24, 25, 26, 27, 28, 29, 30, 31, 32] (by decide +kernel) (by decide +kernel)) (goodIn_sub (fun _ h => List.mem_cons_of_mem _ (List.mem_append_right _ h)) (by decide +kernel))
set_option maxRecDepth 20000 in
theorem gX1_share_X1_rowSum : GoodIn wsX1_share (wsV RX1 84 RX1 yX1_rowSum wsX1_rowSum) := goodIn_app (goodIn_of _ (by decide +kernel)) ggX1_share_X1_rowSum
theorem dX1_share_0 : decode cX1_share 0 = .ok (.aload_n 0, 1) := by decide +kernel
theorem dX1_share_1 : decode cX1_share 1 = .ok (.aload_n 0, 1) := by decide +kernel
theorem dX1_share_2 : decode cX1_share 2 = .ok (.iload_n 1, 1) := by decide +kernel
theorem dX1_share_3 : decode cX1_share 3 = .ok (.iload_n 2, 1) := by decide +kernel
theorem dX1_share_4 : decode cX1_share 4 = .ok (.invokevirtual 112, 3) := by decide +kernel
theorem dX1_share_7 : decode cX1_share 7 = .ok (.ifCond .eq 7, 3) := by decide +kernel
theorem dX1_share_10 : decode cX1_share 10 = .ok (.iconst 0, 1) := by decide +kernel
theorem dX1_share_11 : decode cX1_share 11 = .ok (.goto 4, 3) := by decide +kernel
theorem dX1_share_14 : decode cX1_share 14 = .ok (.iconst 1, 1) := by decide +kernel
theorem dX1_share_15 : decode cX1_share 15 = .ok (.putfield 45, 3) := by decide +kernel
theorem dX1_share_18 : decode cX1_share 18 = .ok (.aload_n 0, 1) := by decide +kernel
theorem dX1_share_19 : decode cX1_share 19 = .ok (.getfield 45, 3) := by decide +kernel
theorem dX1_share_22 : decode cX1_share 22 = .ok (.ifCond .gt 13, 3) := by decide +kernel
theorem dX1_share_25 : decode cX1_share 25 = .ok (.aload_n 0, 1) := by decide +kernel
theorem dX1_share_26 : decode cX1_share 26 = .ok (.iload_n 1, 1) := by decide +kernel
theorem dX1_share_27 : decode cX1_share 27 = .ok (.invokevirtual 84, 3) := by decide +kernel
theorem dX1_share_30 : decode cX1_share 30 = .ok (.dconst 0, 1) := by decide +kernel
theorem dX1_share_31 : decode cX1_share 31 = .ok (.dcmp .l, 1) := by decide +kernel
theorem dX1_share_32 : decode cX1_share 32 = .ok (.ifCond .gt 7, 3) := by decide +kernel
theorem dX1_share_35 : decode cX1_share 35 = .ok (.dconst 0, 1) := by decide +kernel
theorem dX1_share_36 : decode cX1_share 36 = .ok (.goto 20, 3) := by decide +kernel
theorem dX1_share_39 : decode cX1_share 39 = .ok (.aload_n 0, 1) := by decide +kernel
theorem dX1_share_40 : decode cX1_share 40 = .ok (.getfield 23, 3) := by decide +kernel
theorem dX1_share_43 : decode cX1_share 43 = .ok (.bipush 6, 2) := by decide +kernel
theorem dX1_share_45 : decode cX1_share 45 = .ok (.iload_n 1, 1) := by decide +kernel
theorem dX1_share_46 : decode cX1_share 46 = .ok (.imul, 1) := by decide +kernel
theorem dX1_share_47 : decode cX1_share 47 = .ok (.iload_n 2, 1) := by decide +kernel
theorem dX1_share_48 : decode cX1_share 48 = .ok (.iadd, 1) := by decide +kernel
theorem dX1_share_49 : decode cX1_share 49 = .ok (.daload, 1) := by decide +kernel
theorem dX1_share_50 : decode cX1_share 50 = .ok (.aload_n 0, 1) := by decide +kernel
theorem dX1_share_51 : decode cX1_share 51 = .ok (.iload_n 1, 1) := by decide +kernel
theorem dX1_share_52 : decode cX1_share 52 = .ok (.invokevirtual 84, 3) := by decide +kernel
theorem dX1_share_55 : decode cX1_share 55 = .ok (.ddiv, 1) := by decide +kernel
theorem dX1_share_56 : decode cX1_share 56 = .ok (.dreturn, 1) := by decide +kernel
set_option maxRecDepth 20000 in
theorem ggX1_crossRatio_X1_areArms : GoodIn wsX1_crossRatio wsX1_areArms := goodIn_r _ [7, 8, 9, 10, 6, 11, 12, 13, 14, 15, 16, 17, 18, 19, 20, 21, 22, 23, 24, 25, 26, 27, 28] (by decide +kernel) (by decide +kernel)
set_option maxRecDepth 20000 in
theorem gX1_crossRatio_X1_areArms : GoodIn wsX1_crossRatio (wsV RX1 112 RX1 yX1_areArms wsX1_areArms) := goodIn_app (goodIn_of _ (by decide +kernel)) ggX1_crossRatio_X1_areArms
theorem dX1_crossRatio_0 : decode cX1_crossRatio 0 = .ok (.aload_n 0, 1) := by decide +kernel
theorem dX1_crossRatio_1 : decode cX1_crossRatio 1 = .ok (.aload_n 0, 1) := by decide +kernel
theorem dX1_crossRatio_2 : decode cX1_crossRatio 2 = .ok (.iload_n 1, 1) := by decide +kernel
theorem dX1_crossRatio_3 : decode cX1_crossRatio 3 = .ok (.iload_n 2, 1) := by decide +kernel
theorem dX1_crossRatio_4 : decode cX1_crossRatio 4 = .ok (.invokevirtual 112, 3) := by decide +kernel
theorem dX1_crossRatio_7 : decode cX1_crossRatio 7 = .ok (.ifCond .eq 17, 3) := by decide +kernel
theorem dX1_crossRatio_10 : decode cX1_crossRatio 10 = .ok (.aload_n 0, 1) := by decide +kernel
theorem dX1_crossRatio_11 : decode cX1_crossRatio 11 = .ok (.iload_n 3, 1) := by decide +kernel
theorem dX1_crossRatio_12 : decode cX1_crossRatio 12 = .ok (.iload 4, 2) := by decide +kernel
theorem dX1_crossRatio_14 : decode cX1_crossRatio 14 = .ok (.invokevirtual 112, 3) := by decide +kernel
theorem dX1_crossRatio_17 : decode cX1_crossRatio 17 = .ok (.ifCond .eq 7, 3) := by decide +kernel
theorem dX1_crossRatio_20 : decode cX1_crossRatio 20 = .ok (.iconst 0, 1) := by decide +kernel
theorem dX1_crossRatio_21 : decode cX1_crossRatio 21 = .ok (.goto 4, 3) := by decide +kernel
theorem dX1_crossRatio_24 : decode cX1_crossRatio 24 = .ok (.iconst 1, 1) := by decide +kernel
theorem dX1_crossRatio_25 : decode cX1_crossRatio 25 = .ok (.putfield 45, 3) := by decide +kernel
theorem dX1_crossRatio_28 : decode cX1_crossRatio 28 = .ok (.aload_n 0, 1) := by decide +kernel
theorem dX1_crossRatio_29 : decode cX1_crossRatio 29 = .ok (.getfield 45, 3) := by decide +kernel
theorem dX1_crossRatio_32 : decode cX1_crossRatio 32 = .ok (.ifCond .le 5, 3) := by decide +kernel
theorem dX1_crossRatio_35 : decode cX1_crossRatio 35 = .ok (.dconst 0, 1) := by decide +kernel
theorem dX1_crossRatio_36 : decode cX1_crossRatio 36 = .ok (.dreturn, 1) := by decide +kernel
theorem dX1_crossRatio_37 : decode cX1_crossRatio 37 = .ok (.aload_n 0, 1) := by decide +kernel
theorem dX1_crossRatio_38 : decode cX1_crossRatio 38 = .ok (.getfield 23, 3) := by decide +kernel
theorem dX1_crossRatio_41 : decode cX1_crossRatio 41 = .ok (.bipush 6, 2) := by decide +kernel
theorem dX1_crossRatio_43 : decode cX1_crossRatio 43 = .ok (.iload_n 1, 1) := by decide +kernel
theorem dX1_crossRatio_44 : decode cX1_crossRatio 44 = .ok (.imul, 1) := by decide +kernel
theorem dX1_crossRatio_45 : decode cX1_crossRatio 45 = .ok (.iload_n 3, 1) := by decide +kernel
theorem dX1_crossRatio_46 : decode cX1_crossRatio 46 = .ok (.iadd, 1) := by decide +kernel
theorem dX1_crossRatio_47 : decode cX1_crossRatio 47 = .ok (.daload, 1) := by decide +kernel
theorem dX1_crossRatio_48 : decode cX1_crossRatio 48 = .ok (.aload_n 0, 1) := by decide +kernel
theorem dX1_crossRatio_49 : decode cX1_crossRatio 49 = .ok (.getfield 23, 3) := by decide +kernel
theorem dX1_crossRatio_52 : decode cX1_crossRatio 52 = .ok (.bipush 6, 2) := by decide +kernel
theorem dX1_crossRatio_54 : decode cX1_crossRatio 54 = .ok (.iload_n 2, 1) := by decide +kernel
theorem dX1_crossRatio_55 : decode cX1_crossRatio 55 = .ok (.imul, 1) := by decide +kernel
theorem dX1_crossRatio_56 : decode cX1_crossRatio 56 = .ok (.iload 4, 2) := by decide +kernel
theorem dX1_crossRatio_58 : decode cX1_crossRatio 58 = .ok (.iadd, 1) := by decide +kernel
theorem dX1_crossRatio_59 : decode cX1_crossRatio 59 = .ok (.daload, 1) := by decide +kernel
theorem dX1_crossRatio_60 : decode cX1_crossRatio 60 = .ok (.dmul, 1) := by decide +kernel
theorem dX1_crossRatio_61 : decode cX1_crossRatio 61 = .ok (.dstore 5, 2) := by decide +kernel
theorem dX1_crossRatio_63 : decode cX1_crossRatio 63 = .ok (.aload_n 0, 1) := by decide +kernel
theorem dX1_crossRatio_64 : decode cX1_crossRatio 64 = .ok (.getfield 23, 3) := by decide +kernel
theorem dX1_crossRatio_67 : decode cX1_crossRatio 67 = .ok (.bipush 6, 2) := by decide +kernel
theorem dX1_crossRatio_69 : decode cX1_crossRatio 69 = .ok (.iload_n 1, 1) := by decide +kernel
theorem dX1_crossRatio_70 : decode cX1_crossRatio 70 = .ok (.imul, 1) := by decide +kernel
theorem dX1_crossRatio_71 : decode cX1_crossRatio 71 = .ok (.iload 4, 2) := by decide +kernel
theorem dX1_crossRatio_73 : decode cX1_crossRatio 73 = .ok (.iadd, 1) := by decide +kernel
theorem dX1_crossRatio_74 : decode cX1_crossRatio 74 = .ok (.daload, 1) := by decide +kernel
theorem dX1_crossRatio_75 : decode cX1_crossRatio 75 = .ok (.aload_n 0, 1) := by decide +kernel
theorem dX1_crossRatio_76 : decode cX1_crossRatio 76 = .ok (.getfield 23, 3) := by decide +kernel
theorem dX1_crossRatio_79 : decode cX1_crossRatio 79 = .ok (.bipush 6, 2) := by decide +kernel
theorem dX1_crossRatio_81 : decode cX1_crossRatio 81 = .ok (.iload_n 2, 1) := by decide +kernel
theorem dX1_crossRatio_82 : decode cX1_crossRatio 82 = .ok (.imul, 1) := by decide +kernel
theorem dX1_crossRatio_83 : decode cX1_crossRatio 83 = .ok (.iload_n 3, 1) := by decide +kernel
theorem dX1_crossRatio_84 : decode cX1_crossRatio 84 = .ok (.iadd, 1) := by decide +kernel
theorem dX1_crossRatio_85 : decode cX1_crossRatio 85 = .ok (.daload, 1) := by decide +kernel
theorem dX1_crossRatio_86 : decode cX1_crossRatio 86 = .ok (.dmul, 1) := by decide +kernel
theorem dX1_crossRatio_87 : decode cX1_crossRatio 87 = .ok (.dstore 7, 2) := by decide +kernel
theorem dX1_crossRatio_89 : decode cX1_crossRatio 89 = .ok (.aload_n 0, 1) := by decide +kernel
theorem dX1_crossRatio_90 : decode cX1_crossRatio 90 = .ok (.dload 7, 2) := by decide +kernel
theorem dX1_crossRatio_92 : decode cX1_crossRatio 92 = .ok (.dconst 0, 1) := by decide +kernel
theorem dX1_crossRatio_93 : decode cX1_crossRatio 93 = .ok (.dcmp .l, 1) := by decide +kernel
theorem dX1_crossRatio_94 : decode cX1_crossRatio 94 = .ok (.ifCond .le 7, 3) := by decide +kernel
theorem dX1_crossRatio_97 : decode cX1_crossRatio 97 = .ok (.iconst 0, 1) := by decide +kernel
theorem dX1_crossRatio_98 : decode cX1_crossRatio 98 = .ok (.goto 4, 3) := by decide +kernel
theorem dX1_crossRatio_101 : decode cX1_crossRatio 101 = .ok (.iconst 2, 1) := by decide +kernel
theorem dX1_crossRatio_102 : decode cX1_crossRatio 102 = .ok (.putfield 45, 3) := by decide +kernel
theorem dX1_crossRatio_105 : decode cX1_crossRatio 105 = .ok (.aload_n 0, 1) := by decide +kernel
theorem dX1_crossRatio_106 : decode cX1_crossRatio 106 = .ok (.getfield 45, 3) := by decide +kernel
theorem dX1_crossRatio_109 : decode cX1_crossRatio 109 = .ok (.ifCond .le 7, 3) := by decide +kernel
theorem dX1_crossRatio_112 : decode cX1_crossRatio 112 = .ok (.dconst 0, 1) := by decide +kernel
theorem dX1_crossRatio_113 : decode cX1_crossRatio 113 = .ok (.goto 8, 3) := by decide +kernel
theorem dX1_crossRatio_116 : decode cX1_crossRatio 116 = .ok (.dload 5, 2) := by decide +kernel
theorem dX1_crossRatio_118 : decode cX1_crossRatio 118 = .ok (.dload 7, 2) := by decide +kernel
theorem dX1_crossRatio_120 : decode cX1_crossRatio 120 = .ok (.ddiv, 1) := by decide +kernel
theorem dX1_crossRatio_121 : decode cX1_crossRatio 121 = .ok (.dreturn, 1) := by decide +kernel
theorem dX1_busiest_0 : decode cX1_busiest 0 = .ok (.iconst (-1), 1) := by decide +kernel
theorem dX1_busiest_1 : decode cX1_busiest 1 = .ok (.istore_n 1, 1) := by decide +kernel
theorem dX1_busiest_2 : decode cX1_busiest 2 = .ok (.dconst 0, 1) := by decide +kernel
theorem dX1_busiest_3 : decode cX1_busiest 3 = .ok (.dstore_n 2, 1) := by decide +kernel
theorem dX1_busiest_4 : decode cX1_busiest 4 = .ok (.iconst 0, 1) := by decide +kernel
theorem dX1_busiest_5 : decode cX1_busiest 5 = .ok (.istore 4, 2) := by decide +kernel
theorem dX1_busiest_7 : decode cX1_busiest 7 = .ok (.iload 4, 2) := by decide +kernel
theorem dX1_busiest_9 : decode cX1_busiest 9 = .ok (.aload_n 0, 1) := by decide +kernel
theorem dX1_busiest_10 : decode cX1_busiest 10 = .ok (.getfield 7, 3) := by decide +kernel
theorem dX1_busiest_13 : decode cX1_busiest 13 = .ok (.if_icmp .ge 76, 3) := by decide +kernel
theorem dX1_busiest_16 : decode cX1_busiest 16 = .ok (.iconst 0, 1) := by decide +kernel
theorem dX1_busiest_17 : decode cX1_busiest 17 = .ok (.istore 5, 2) := by decide +kernel
theorem dX1_busiest_19 : decode cX1_busiest 19 = .ok (.iload 5, 2) := by decide +kernel
theorem dX1_busiest_21 : decode cX1_busiest 21 = .ok (.aload_n 0, 1) := by decide +kernel
theorem dX1_busiest_22 : decode cX1_busiest 22 = .ok (.getfield 7, 3) := by decide +kernel
theorem dX1_busiest_25 : decode cX1_busiest 25 = .ok (.if_icmp .ge 58, 3) := by decide +kernel
theorem dX1_busiest_28 : decode cX1_busiest 28 = .ok (.aload_n 0, 1) := by decide +kernel
theorem dX1_busiest_29 : decode cX1_busiest 29 = .ok (.getfield 23, 3) := by decide +kernel
theorem dX1_busiest_32 : decode cX1_busiest 32 = .ok (.bipush 6, 2) := by decide +kernel
theorem dX1_busiest_34 : decode cX1_busiest 34 = .ok (.iload 4, 2) := by decide +kernel
theorem dX1_busiest_36 : decode cX1_busiest 36 = .ok (.imul, 1) := by decide +kernel
theorem dX1_busiest_37 : decode cX1_busiest 37 = .ok (.iload 5, 2) := by decide +kernel
theorem dX1_busiest_39 : decode cX1_busiest 39 = .ok (.iadd, 1) := by decide +kernel
theorem dX1_busiest_40 : decode cX1_busiest 40 = .ok (.daload, 1) := by decide +kernel
theorem dX1_busiest_41 : decode cX1_busiest 41 = .ok (.dstore 6, 2) := by decide +kernel
theorem dX1_busiest_43 : decode cX1_busiest 43 = .ok (.dload 6, 2) := by decide +kernel
theorem dX1_busiest_45 : decode cX1_busiest 45 = .ok (.dload_n 2, 1) := by decide +kernel
theorem dX1_busiest_46 : decode cX1_busiest 46 = .ok (.dcmp .l, 1) := by decide +kernel
theorem dX1_busiest_47 : decode cX1_busiest 47 = .ok (.ifCond .le 14, 3) := by decide +kernel
theorem dX1_busiest_50 : decode cX1_busiest 50 = .ok (.bipush 10, 2) := by decide +kernel
theorem dX1_busiest_52 : decode cX1_busiest 52 = .ok (.iload 4, 2) := by decide +kernel
theorem dX1_busiest_54 : decode cX1_busiest 54 = .ok (.imul, 1) := by decide +kernel
theorem dX1_busiest_55 : decode cX1_busiest 55 = .ok (.iload 5, 2) := by decide +kernel
theorem dX1_busiest_57 : decode cX1_busiest 57 = .ok (.iadd, 1) := by decide +kernel
theorem dX1_busiest_58 : decode cX1_busiest 58 = .ok (.goto 4, 3) := by decide +kernel
theorem dX1_busiest_61 : decode cX1_busiest 61 = .ok (.iload_n 1, 1) := by decide +kernel
theorem dX1_busiest_62 : decode cX1_busiest 62 = .ok (.istore_n 1, 1) := by decide +kernel
theorem dX1_busiest_63 : decode cX1_busiest 63 = .ok (.dload 6, 2) := by decide +kernel
theorem dX1_busiest_65 : decode cX1_busiest 65 = .ok (.dload_n 2, 1) := by decide +kernel
theorem dX1_busiest_66 : decode cX1_busiest 66 = .ok (.dcmp .l, 1) := by decide +kernel
theorem dX1_busiest_67 : decode cX1_busiest 67 = .ok (.ifCond .le 8, 3) := by decide +kernel
theorem dX1_busiest_70 : decode cX1_busiest 70 = .ok (.dload 6, 2) := by decide +kernel
theorem dX1_busiest_72 : decode cX1_busiest 72 = .ok (.goto 4, 3) := by decide +kernel
theorem dX1_busiest_75 : decode cX1_busiest 75 = .ok (.dload_n 2, 1) := by decide +kernel
theorem dX1_busiest_76 : decode cX1_busiest 76 = .ok (.dstore_n 2, 1) := by decide +kernel
theorem dX1_busiest_77 : decode cX1_busiest 77 = .ok (.iinc 5 1, 3) := by decide +kernel
theorem dX1_busiest_80 : decode cX1_busiest 80 = .ok (.goto (-61), 3) := by decide +kernel
theorem dX1_busiest_83 : decode cX1_busiest 83 = .ok (.iinc 4 1, 3) := by decide +kernel
theorem dX1_busiest_86 : decode cX1_busiest 86 = .ok (.goto (-79), 3) := by decide +kernel
theorem dX1_busiest_89 : decode cX1_busiest 89 = .ok (.iload_n 1, 1) := by decide +kernel
theorem dX1_busiest_90 : decode cX1_busiest 90 = .ok (.ireturn, 1) := by decide +kernel
set_option maxRecDepth 20000 in
theorem ggX1_busiestTurn_X1_busiest : GoodIn wsX1_busiestTurn wsX1_busiest := goodIn_ca (goodIn_r _ [6, 7, 8, 9, 10, 11, 12, 13, 14, 15, 16, 17, 18, 19, 20, 21] (by decide +kernel) (by decide +kernel)) (goodIn_sub (fun _ h => List.mem_cons_of_mem _ (List.mem_append_right _ h)) (by decide +kernel))
set_option maxRecDepth 20000 in
theorem gX1_busiestTurn_X1_busiest : GoodIn wsX1_busiestTurn (wsV RX1 116 RX1 yX1_busiest wsX1_busiest) := goodIn_app (goodIn_of _ (by decide +kernel)) ggX1_busiestTurn_X1_busiest
theorem dX1_busiestTurn_0 : decode cX1_busiestTurn 0 = .ok (.aload_n 0, 1) := by decide +kernel
theorem dX1_busiestTurn_1 : decode cX1_busiestTurn 1 = .ok (.iconst 0, 1) := by decide +kernel
theorem dX1_busiestTurn_2 : decode cX1_busiestTurn 2 = .ok (.putfield 45, 3) := by decide +kernel
theorem dX1_busiestTurn_5 : decode cX1_busiestTurn 5 = .ok (.aload_n 0, 1) := by decide +kernel
theorem dX1_busiestTurn_6 : decode cX1_busiestTurn 6 = .ok (.invokevirtual 116, 3) := by decide +kernel
theorem dX1_busiestTurn_9 : decode cX1_busiestTurn 9 = .ok (.ireturn, 1) := by decide +kernel
theorem dX1_nextOf_0 : decode cX1_nextOf 0 = .ok (.iconst (-1), 1) := by decide +kernel
theorem dX1_nextOf_1 : decode cX1_nextOf 1 = .ok (.istore_n 2, 1) := by decide +kernel
theorem dX1_nextOf_2 : decode cX1_nextOf 2 = .ok (.iconst 0, 1) := by decide +kernel
theorem dX1_nextOf_3 : decode cX1_nextOf 3 = .ok (.istore_n 3, 1) := by decide +kernel
theorem dX1_nextOf_4 : decode cX1_nextOf 4 = .ok (.iload_n 3, 1) := by decide +kernel
theorem dX1_nextOf_5 : decode cX1_nextOf 5 = .ok (.aload_n 0, 1) := by decide +kernel
theorem dX1_nextOf_6 : decode cX1_nextOf 6 = .ok (.getfield 7, 3) := by decide +kernel
theorem dX1_nextOf_9 : decode cX1_nextOf 9 = .ok (.if_icmp .ge 73, 3) := by decide +kernel
theorem dX1_nextOf_12 : decode cX1_nextOf 12 = .ok (.aload_n 0, 1) := by decide +kernel
theorem dX1_nextOf_13 : decode cX1_nextOf 13 = .ok (.getfield 20, 3) := by decide +kernel
theorem dX1_nextOf_16 : decode cX1_nextOf 16 = .ok (.bipush 6, 2) := by decide +kernel
theorem dX1_nextOf_18 : decode cX1_nextOf 18 = .ok (.iload_n 1, 1) := by decide +kernel
theorem dX1_nextOf_19 : decode cX1_nextOf 19 = .ok (.imul, 1) := by decide +kernel
theorem dX1_nextOf_20 : decode cX1_nextOf 20 = .ok (.iload_n 3, 1) := by decide +kernel
theorem dX1_nextOf_21 : decode cX1_nextOf 21 = .ok (.iadd, 1) := by decide +kernel
theorem dX1_nextOf_22 : decode cX1_nextOf 22 = .ok (.iaload, 1) := by decide +kernel
theorem dX1_nextOf_23 : decode cX1_nextOf 23 = .ok (.ifCond .le 18, 3) := by decide +kernel
theorem dX1_nextOf_26 : decode cX1_nextOf 26 = .ok (.aload_n 0, 1) := by decide +kernel
theorem dX1_nextOf_27 : decode cX1_nextOf 27 = .ok (.getfield 30, 3) := by decide +kernel
theorem dX1_nextOf_30 : decode cX1_nextOf 30 = .ok (.iload_n 3, 1) := by decide +kernel
theorem dX1_nextOf_31 : decode cX1_nextOf 31 = .ok (.daload, 1) := by decide +kernel
theorem dX1_nextOf_32 : decode cX1_nextOf 32 = .ok (.dconst 0, 1) := by decide +kernel
theorem dX1_nextOf_33 : decode cX1_nextOf 33 = .ok (.dcmp .l, 1) := by decide +kernel
theorem dX1_nextOf_34 : decode cX1_nextOf 34 = .ok (.ifCond .lt 7, 3) := by decide +kernel
theorem dX1_nextOf_37 : decode cX1_nextOf 37 = .ok (.iconst 1, 1) := by decide +kernel
theorem dX1_nextOf_38 : decode cX1_nextOf 38 = .ok (.goto 4, 3) := by decide +kernel
theorem dX1_nextOf_41 : decode cX1_nextOf 41 = .ok (.iconst 0, 1) := by decide +kernel
theorem dX1_nextOf_42 : decode cX1_nextOf 42 = .ok (.istore 4, 2) := by decide +kernel
theorem dX1_nextOf_44 : decode cX1_nextOf 44 = .ok (.iload 4, 2) := by decide +kernel
theorem dX1_nextOf_46 : decode cX1_nextOf 46 = .ok (.ifCond .eq 28, 3) := by decide +kernel
theorem dX1_nextOf_49 : decode cX1_nextOf 49 = .ok (.iload_n 2, 1) := by decide +kernel
theorem dX1_nextOf_50 : decode cX1_nextOf 50 = .ok (.iconst (-1), 1) := by decide +kernel
theorem dX1_nextOf_51 : decode cX1_nextOf 51 = .ok (.if_icmp .eq 19, 3) := by decide +kernel
theorem dX1_nextOf_54 : decode cX1_nextOf 54 = .ok (.aload_n 0, 1) := by decide +kernel
theorem dX1_nextOf_55 : decode cX1_nextOf 55 = .ok (.getfield 30, 3) := by decide +kernel
theorem dX1_nextOf_58 : decode cX1_nextOf 58 = .ok (.iload_n 3, 1) := by decide +kernel
theorem dX1_nextOf_59 : decode cX1_nextOf 59 = .ok (.daload, 1) := by decide +kernel
theorem dX1_nextOf_60 : decode cX1_nextOf 60 = .ok (.aload_n 0, 1) := by decide +kernel
theorem dX1_nextOf_61 : decode cX1_nextOf 61 = .ok (.getfield 30, 3) := by decide +kernel
theorem dX1_nextOf_64 : decode cX1_nextOf 64 = .ok (.iload_n 2, 1) := by decide +kernel
theorem dX1_nextOf_65 : decode cX1_nextOf 65 = .ok (.daload, 1) := by decide +kernel
theorem dX1_nextOf_66 : decode cX1_nextOf 66 = .ok (.dcmp .l, 1) := by decide +kernel
theorem dX1_nextOf_67 : decode cX1_nextOf 67 = .ok (.ifCond .le 7, 3) := by decide +kernel
theorem dX1_nextOf_70 : decode cX1_nextOf 70 = .ok (.iload_n 3, 1) := by decide +kernel
theorem dX1_nextOf_71 : decode cX1_nextOf 71 = .ok (.goto 4, 3) := by decide +kernel
theorem dX1_nextOf_74 : decode cX1_nextOf 74 = .ok (.iload_n 2, 1) := by decide +kernel
theorem dX1_nextOf_75 : decode cX1_nextOf 75 = .ok (.istore_n 2, 1) := by decide +kernel
theorem dX1_nextOf_76 : decode cX1_nextOf 76 = .ok (.iinc 3 1, 3) := by decide +kernel
theorem dX1_nextOf_79 : decode cX1_nextOf 79 = .ok (.goto (-75), 3) := by decide +kernel
theorem dX1_nextOf_82 : decode cX1_nextOf 82 = .ok (.iload_n 2, 1) := by decide +kernel
theorem dX1_nextOf_83 : decode cX1_nextOf 83 = .ok (.ireturn, 1) := by decide +kernel
set_option maxRecDepth 20000 in
theorem ggX1_roundRow_X1_rowSum : GoodIn wsX1_roundRow wsX1_rowSum := goodIn_ca (goodIn_r _ [11, 1, 2, 17, 18, 19, 20, 21, 22, 23, 24, 25, 26, 27, 28, 29] (by decide +kernel) (by decide +kernel)) (goodIn_sub (fun _ h => List.mem_cons_of_mem _ (List.mem_append_right _ h)) (by decide +kernel))
set_option maxRecDepth 20000 in
theorem gX1_roundRow_X1_rowSum : GoodIn wsX1_roundRow (wsV RX1 84 RX1 yX1_rowSum wsX1_rowSum) := goodIn_app (goodIn_of _ (by decide +kernel)) ggX1_roundRow_X1_rowSum
set_option maxRecDepth 20000 in
theorem ggX1_roundRow_X1_nextOf : GoodIn wsX1_roundRow wsX1_nextOf := goodIn_ca (goodIn_r _ [15, 1, 16, 5, 17, 18, 19, 20, 21, 22, 23, 24, 25, 26, 27, 28, 29] (by decide +kernel) (by decide +kernel)) (goodIn_sub (fun _ h => List.mem_cons_of_mem _ (List.mem_append_right _ h)) (by decide +kernel))
set_option maxRecDepth 20000 in
theorem gX1_roundRow_X1_nextOf : GoodIn wsX1_roundRow (wsV RX1 119 RX1 yX1_nextOf wsX1_nextOf) := goodIn_app (goodIn_of _ (by decide +kernel)) ggX1_roundRow_X1_nextOf
theorem dX1_roundRow_0 : decode cX1_roundRow 0 = .ok (.aload_n 0, 1) := by decide +kernel
theorem dX1_roundRow_1 : decode cX1_roundRow 1 = .ok (.iload_n 1, 1) := by decide +kernel
theorem dX1_roundRow_2 : decode cX1_roundRow 2 = .ok (.invokevirtual 84, 3) := by decide +kernel
theorem dX1_roundRow_5 : decode cX1_roundRow 5 = .ok (.dstore_n 2, 1) := by decide +kernel
theorem dX1_roundRow_6 : decode cX1_roundRow 6 = .ok (.iconst 0, 1) := by decide +kernel
theorem dX1_roundRow_7 : decode cX1_roundRow 7 = .ok (.istore 4, 2) := by decide +kernel
theorem dX1_roundRow_9 : decode cX1_roundRow 9 = .ok (.iconst 0, 1) := by decide +kernel
theorem dX1_roundRow_10 : decode cX1_roundRow 10 = .ok (.istore 5, 2) := by decide +kernel
theorem dX1_roundRow_12 : decode cX1_roundRow 12 = .ok (.iload 5, 2) := by decide +kernel
theorem dX1_roundRow_14 : decode cX1_roundRow 14 = .ok (.aload_n 0, 1) := by decide +kernel
theorem dX1_roundRow_15 : decode cX1_roundRow 15 = .ok (.getfield 7, 3) := by decide +kernel
theorem dX1_roundRow_18 : decode cX1_roundRow 18 = .ok (.if_icmp .ge 98, 3) := by decide +kernel
theorem dX1_roundRow_21 : decode cX1_roundRow 21 = .ok (.dload_n 2, 1) := by decide +kernel
theorem dX1_roundRow_22 : decode cX1_roundRow 22 = .ok (.dconst 0, 1) := by decide +kernel
theorem dX1_roundRow_23 : decode cX1_roundRow 23 = .ok (.dcmp .l, 1) := by decide +kernel
theorem dX1_roundRow_24 : decode cX1_roundRow 24 = .ok (.ifCond .le 28, 3) := by decide +kernel
theorem dX1_roundRow_27 : decode cX1_roundRow 27 = .ok (.aload_n 0, 1) := by decide +kernel
theorem dX1_roundRow_28 : decode cX1_roundRow 28 = .ok (.getfield 23, 3) := by decide +kernel
theorem dX1_roundRow_31 : decode cX1_roundRow 31 = .ok (.bipush 6, 2) := by decide +kernel
theorem dX1_roundRow_33 : decode cX1_roundRow 33 = .ok (.iload_n 1, 1) := by decide +kernel
theorem dX1_roundRow_34 : decode cX1_roundRow 34 = .ok (.imul, 1) := by decide +kernel
theorem dX1_roundRow_35 : decode cX1_roundRow 35 = .ok (.iload 5, 2) := by decide +kernel
theorem dX1_roundRow_37 : decode cX1_roundRow 37 = .ok (.iadd, 1) := by decide +kernel
theorem dX1_roundRow_38 : decode cX1_roundRow 38 = .ok (.daload, 1) := by decide +kernel
theorem dX1_roundRow_39 : decode cX1_roundRow 39 = .ok (.aload_n 0, 1) := by decide +kernel
theorem dX1_roundRow_40 : decode cX1_roundRow 40 = .ok (.getfield 13, 3) := by decide +kernel
theorem dX1_roundRow_43 : decode cX1_roundRow 43 = .ok (.iload_n 1, 1) := by decide +kernel
theorem dX1_roundRow_44 : decode cX1_roundRow 44 = .ok (.iaload, 1) := by decide +kernel
theorem dX1_roundRow_45 : decode cX1_roundRow 45 = .ok (.i2d, 1) := by decide +kernel
theorem dX1_roundRow_46 : decode cX1_roundRow 46 = .ok (.dmul, 1) := by decide +kernel
theorem dX1_roundRow_47 : decode cX1_roundRow 47 = .ok (.dload_n 2, 1) := by decide +kernel
theorem dX1_roundRow_48 : decode cX1_roundRow 48 = .ok (.ddiv, 1) := by decide +kernel
theorem dX1_roundRow_49 : decode cX1_roundRow 49 = .ok (.goto 4, 3) := by decide +kernel
theorem dX1_roundRow_52 : decode cX1_roundRow 52 = .ok (.dconst 0, 1) := by decide +kernel
theorem dX1_roundRow_53 : decode cX1_roundRow 53 = .ok (.dstore 6, 2) := by decide +kernel
theorem dX1_roundRow_55 : decode cX1_roundRow 55 = .ok (.aload_n 0, 1) := by decide +kernel
theorem dX1_roundRow_56 : decode cX1_roundRow 56 = .ok (.getfield 27, 3) := by decide +kernel
theorem dX1_roundRow_59 : decode cX1_roundRow 59 = .ok (.bipush 6, 2) := by decide +kernel
theorem dX1_roundRow_61 : decode cX1_roundRow 61 = .ok (.iload_n 1, 1) := by decide +kernel
theorem dX1_roundRow_62 : decode cX1_roundRow 62 = .ok (.imul, 1) := by decide +kernel
theorem dX1_roundRow_63 : decode cX1_roundRow 63 = .ok (.iload 5, 2) := by decide +kernel
theorem dX1_roundRow_65 : decode cX1_roundRow 65 = .ok (.iadd, 1) := by decide +kernel
theorem dX1_roundRow_66 : decode cX1_roundRow 66 = .ok (.dload 6, 2) := by decide +kernel
theorem dX1_roundRow_68 : decode cX1_roundRow 68 = .ok (.d2i, 1) := by decide +kernel
theorem dX1_roundRow_69 : decode cX1_roundRow 69 = .ok (.iastore, 1) := by decide +kernel
theorem dX1_roundRow_70 : decode cX1_roundRow 70 = .ok (.aload_n 0, 1) := by decide +kernel
theorem dX1_roundRow_71 : decode cX1_roundRow 71 = .ok (.getfield 30, 3) := by decide +kernel
theorem dX1_roundRow_74 : decode cX1_roundRow 74 = .ok (.iload 5, 2) := by decide +kernel
theorem dX1_roundRow_76 : decode cX1_roundRow 76 = .ok (.dload 6, 2) := by decide +kernel
theorem dX1_roundRow_78 : decode cX1_roundRow 78 = .ok (.aload_n 0, 1) := by decide +kernel
theorem dX1_roundRow_79 : decode cX1_roundRow 79 = .ok (.getfield 27, 3) := by decide +kernel
theorem dX1_roundRow_82 : decode cX1_roundRow 82 = .ok (.bipush 6, 2) := by decide +kernel
theorem dX1_roundRow_84 : decode cX1_roundRow 84 = .ok (.iload_n 1, 1) := by decide +kernel
theorem dX1_roundRow_85 : decode cX1_roundRow 85 = .ok (.imul, 1) := by decide +kernel
theorem dX1_roundRow_86 : decode cX1_roundRow 86 = .ok (.iload 5, 2) := by decide +kernel
theorem dX1_roundRow_88 : decode cX1_roundRow 88 = .ok (.iadd, 1) := by decide +kernel
theorem dX1_roundRow_89 : decode cX1_roundRow 89 = .ok (.iaload, 1) := by decide +kernel
theorem dX1_roundRow_90 : decode cX1_roundRow 90 = .ok (.i2d, 1) := by decide +kernel
theorem dX1_roundRow_91 : decode cX1_roundRow 91 = .ok (.dsub, 1) := by decide +kernel
theorem dX1_roundRow_92 : decode cX1_roundRow 92 = .ok (.dastore, 1) := by decide +kernel
theorem dX1_roundRow_93 : decode cX1_roundRow 93 = .ok (.iload 4, 2) := by decide +kernel
theorem dX1_roundRow_95 : decode cX1_roundRow 95 = .ok (.aload_n 0, 1) := by decide +kernel
theorem dX1_roundRow_96 : decode cX1_roundRow 96 = .ok (.getfield 27, 3) := by decide +kernel
theorem dX1_roundRow_99 : decode cX1_roundRow 99 = .ok (.bipush 6, 2) := by decide +kernel
theorem dX1_roundRow_101 : decode cX1_roundRow 101 = .ok (.iload_n 1, 1) := by decide +kernel
theorem dX1_roundRow_102 : decode cX1_roundRow 102 = .ok (.imul, 1) := by decide +kernel
theorem dX1_roundRow_103 : decode cX1_roundRow 103 = .ok (.iload 5, 2) := by decide +kernel
theorem dX1_roundRow_105 : decode cX1_roundRow 105 = .ok (.iadd, 1) := by decide +kernel
theorem dX1_roundRow_106 : decode cX1_roundRow 106 = .ok (.iaload, 1) := by decide +kernel
theorem dX1_roundRow_107 : decode cX1_roundRow 107 = .ok (.iadd, 1) := by decide +kernel
theorem dX1_roundRow_108 : decode cX1_roundRow 108 = .ok (.istore 4, 2) := by decide +kernel
theorem dX1_roundRow_110 : decode cX1_roundRow 110 = .ok (.iinc 5 1, 3) := by decide +kernel
theorem dX1_roundRow_113 : decode cX1_roundRow 113 = .ok (.goto (-101), 3) := by decide +kernel
theorem dX1_roundRow_116 : decode cX1_roundRow 116 = .ok (.aload_n 0, 1) := by decide +kernel
theorem dX1_roundRow_117 : decode cX1_roundRow 117 = .ok (.iload_n 1, 1) := by decide +kernel
theorem dX1_roundRow_118 : decode cX1_roundRow 118 = .ok (.invokevirtual 119, 3) := by decide +kernel
theorem dX1_roundRow_121 : decode cX1_roundRow 121 = .ok (.istore 5, 2) := by decide +kernel
theorem dX1_roundRow_123 : decode cX1_roundRow 123 = .ok (.dload_n 2, 1) := by decide +kernel
theorem dX1_roundRow_124 : decode cX1_roundRow 124 = .ok (.dconst 0, 1) := by decide +kernel
theorem dX1_roundRow_125 : decode cX1_roundRow 125 = .ok (.dcmp .l, 1) := by decide +kernel
theorem dX1_roundRow_126 : decode cX1_roundRow 126 = .ok (.ifCond .le 59, 3) := by decide +kernel
theorem dX1_roundRow_129 : decode cX1_roundRow 129 = .ok (.iload 4, 2) := by decide +kernel
theorem dX1_roundRow_131 : decode cX1_roundRow 131 = .ok (.aload_n 0, 1) := by decide +kernel
theorem dX1_roundRow_132 : decode cX1_roundRow 132 = .ok (.getfield 13, 3) := by decide +kernel
theorem dX1_roundRow_135 : decode cX1_roundRow 135 = .ok (.iload_n 1, 1) := by decide +kernel
theorem dX1_roundRow_136 : decode cX1_roundRow 136 = .ok (.iaload, 1) := by decide +kernel
theorem dX1_roundRow_137 : decode cX1_roundRow 137 = .ok (.if_icmp .ge 48, 3) := by decide +kernel
theorem dX1_roundRow_140 : decode cX1_roundRow 140 = .ok (.iload 5, 2) := by decide +kernel
theorem dX1_roundRow_142 : decode cX1_roundRow 142 = .ok (.iconst (-1), 1) := by decide +kernel
theorem dX1_roundRow_143 : decode cX1_roundRow 143 = .ok (.if_icmp .eq 42, 3) := by decide +kernel
theorem dX1_roundRow_146 : decode cX1_roundRow 146 = .ok (.aload_n 0, 1) := by decide +kernel
theorem dX1_roundRow_147 : decode cX1_roundRow 147 = .ok (.getfield 27, 3) := by decide +kernel
theorem dX1_roundRow_150 : decode cX1_roundRow 150 = .ok (.bipush 6, 2) := by decide +kernel
theorem dX1_roundRow_152 : decode cX1_roundRow 152 = .ok (.iload_n 1, 1) := by decide +kernel
theorem dX1_roundRow_153 : decode cX1_roundRow 153 = .ok (.imul, 1) := by decide +kernel
theorem dX1_roundRow_154 : decode cX1_roundRow 154 = .ok (.iload 5, 2) := by decide +kernel
theorem dX1_roundRow_156 : decode cX1_roundRow 156 = .ok (.iadd, 1) := by decide +kernel
theorem dX1_roundRow_157 : decode cX1_roundRow 157 = .ok (.dup2, 1) := by decide +kernel
theorem dX1_roundRow_158 : decode cX1_roundRow 158 = .ok (.iaload, 1) := by decide +kernel
theorem dX1_roundRow_159 : decode cX1_roundRow 159 = .ok (.iconst 1, 1) := by decide +kernel
theorem dX1_roundRow_160 : decode cX1_roundRow 160 = .ok (.iadd, 1) := by decide +kernel
theorem dX1_roundRow_161 : decode cX1_roundRow 161 = .ok (.iastore, 1) := by decide +kernel
theorem dX1_roundRow_162 : decode cX1_roundRow 162 = .ok (.iinc 4 1, 3) := by decide +kernel
theorem dX1_roundRow_165 : decode cX1_roundRow 165 = .ok (.aload_n 0, 1) := by decide +kernel
theorem dX1_roundRow_166 : decode cX1_roundRow 166 = .ok (.getfield 30, 3) := by decide +kernel
theorem dX1_roundRow_169 : decode cX1_roundRow 169 = .ok (.iload 5, 2) := by decide +kernel
theorem dX1_roundRow_171 : decode cX1_roundRow 171 = .ok (.ldc2_w 122, 3) := by decide +kernel
theorem dX1_roundRow_174 : decode cX1_roundRow 174 = .ok (.dastore, 1) := by decide +kernel
theorem dX1_roundRow_175 : decode cX1_roundRow 175 = .ok (.aload_n 0, 1) := by decide +kernel
theorem dX1_roundRow_176 : decode cX1_roundRow 176 = .ok (.iload_n 1, 1) := by decide +kernel
theorem dX1_roundRow_177 : decode cX1_roundRow 177 = .ok (.invokevirtual 119, 3) := by decide +kernel
theorem dX1_roundRow_180 : decode cX1_roundRow 180 = .ok (.istore 5, 2) := by decide +kernel
theorem dX1_roundRow_182 : decode cX1_roundRow 182 = .ok (.goto (-59), 3) := by decide +kernel
theorem dX1_roundRow_185 : decode cX1_roundRow 185 = .ok (.return_, 1) := by decide +kernel
set_option maxRecDepth 20000 in
theorem ggX1_layWhole_X1_roundRow : GoodIn wsX1_layWhole wsX1_roundRow := goodIn_ca (goodIn_r _ [6, 1, 7, 8, 9, 10, 11, 12, 13, 14, 5, 15, 16, 17, 18, 19, 20, 21, 22, 23, 24, 25, 26, 27, 28, 29, 30, 31, 32, 33] (by decide +kernel) (by decide +kernel)) (goodIn_sub (fun _ h => List.mem_cons_of_mem _ (List.mem_append_right _ h)) (by decide +kernel))
set_option maxRecDepth 20000 in
theorem gX1_layWhole_X1_roundRow : GoodIn wsX1_layWhole (wsV RX1 124 RX1 yX1_roundRow wsX1_roundRow) := goodIn_app (goodIn_of _ (by decide +kernel)) ggX1_layWhole_X1_roundRow
theorem dX1_layWhole_0 : decode cX1_layWhole 0 = .ok (.iconst 0, 1) := by decide +kernel
theorem dX1_layWhole_1 : decode cX1_layWhole 1 = .ok (.istore_n 1, 1) := by decide +kernel
theorem dX1_layWhole_2 : decode cX1_layWhole 2 = .ok (.iload_n 1, 1) := by decide +kernel
theorem dX1_layWhole_3 : decode cX1_layWhole 3 = .ok (.aload_n 0, 1) := by decide +kernel
theorem dX1_layWhole_4 : decode cX1_layWhole 4 = .ok (.getfield 7, 3) := by decide +kernel
theorem dX1_layWhole_7 : decode cX1_layWhole 7 = .ok (.if_icmp .ge 14, 3) := by decide +kernel
theorem dX1_layWhole_10 : decode cX1_layWhole 10 = .ok (.aload_n 0, 1) := by decide +kernel
theorem dX1_layWhole_11 : decode cX1_layWhole 11 = .ok (.iload_n 1, 1) := by decide +kernel
theorem dX1_layWhole_12 : decode cX1_layWhole 12 = .ok (.invokevirtual 124, 3) := by decide +kernel
theorem dX1_layWhole_15 : decode cX1_layWhole 15 = .ok (.iinc 1 1, 3) := by decide +kernel
theorem dX1_layWhole_18 : decode cX1_layWhole 18 = .ok (.goto (-16), 3) := by decide +kernel
theorem dX1_layWhole_21 : decode cX1_layWhole 21 = .ok (.return_, 1) := by decide +kernel
set_option maxRecDepth 20000 in
theorem ggX1_rounded_X1_areArms : GoodIn wsX1_rounded wsX1_areArms := goodIn_r _ [7, 8, 9, 10, 6, 11, 12, 13, 14, 15, 33, 34, 35, 36, 37, 38, 39, 40, 41, 42, 43, 44, 45] (by decide +kernel) (by decide +kernel)
set_option maxRecDepth 20000 in
theorem gX1_rounded_X1_areArms : GoodIn wsX1_rounded (wsV RX1 112 RX1 yX1_areArms wsX1_areArms) := goodIn_app (goodIn_of _ (by decide +kernel)) ggX1_rounded_X1_areArms
set_option maxRecDepth 20000 in
theorem ggX1_rounded_X1_roundRow : GoodIn wsX1_rounded wsX1_roundRow := goodIn_ca (goodIn_r _ [19, 12, 20, 21, 2, 22, 23, 24, 25, 26, 6, 27, 28, 29, 30, 31, 32, 33, 34, 35, 36, 37, 38, 39, 40, 41, 42, 43, 44, 45] (by decide +kernel) (by decide +kernel)) (goodIn_sub (fun _ h => List.mem_cons_of_mem _ (List.mem_append_right _ h)) (by decide +kernel))
set_option maxRecDepth 20000 in
theorem gX1_rounded_X1_roundRow : GoodIn wsX1_rounded (wsV RX1 124 RX1 yX1_roundRow wsX1_roundRow) := goodIn_app (goodIn_of _ (by decide +kernel)) ggX1_rounded_X1_roundRow
theorem dX1_rounded_0 : decode cX1_rounded 0 = .ok (.aload_n 0, 1) := by decide +kernel
theorem dX1_rounded_1 : decode cX1_rounded 1 = .ok (.aload_n 0, 1) := by decide +kernel
theorem dX1_rounded_2 : decode cX1_rounded 2 = .ok (.iload_n 1, 1) := by decide +kernel
theorem dX1_rounded_3 : decode cX1_rounded 3 = .ok (.iload_n 2, 1) := by decide +kernel
theorem dX1_rounded_4 : decode cX1_rounded 4 = .ok (.invokevirtual 112, 3) := by decide +kernel
theorem dX1_rounded_7 : decode cX1_rounded 7 = .ok (.ifCond .eq 7, 3) := by decide +kernel
theorem dX1_rounded_10 : decode cX1_rounded 10 = .ok (.iconst 0, 1) := by decide +kernel
theorem dX1_rounded_11 : decode cX1_rounded 11 = .ok (.goto 4, 3) := by decide +kernel
theorem dX1_rounded_14 : decode cX1_rounded 14 = .ok (.iconst 1, 1) := by decide +kernel
theorem dX1_rounded_15 : decode cX1_rounded 15 = .ok (.putfield 45, 3) := by decide +kernel
theorem dX1_rounded_18 : decode cX1_rounded 18 = .ok (.aload_n 0, 1) := by decide +kernel
theorem dX1_rounded_19 : decode cX1_rounded 19 = .ok (.getfield 45, 3) := by decide +kernel
theorem dX1_rounded_22 : decode cX1_rounded 22 = .ok (.ifCond .le 5, 3) := by decide +kernel
theorem dX1_rounded_25 : decode cX1_rounded 25 = .ok (.iconst 0, 1) := by decide +kernel
theorem dX1_rounded_26 : decode cX1_rounded 26 = .ok (.ireturn, 1) := by decide +kernel
theorem dX1_rounded_27 : decode cX1_rounded 27 = .ok (.aload_n 0, 1) := by decide +kernel
theorem dX1_rounded_28 : decode cX1_rounded 28 = .ok (.iload_n 1, 1) := by decide +kernel
theorem dX1_rounded_29 : decode cX1_rounded 29 = .ok (.invokevirtual 124, 3) := by decide +kernel
theorem dX1_rounded_32 : decode cX1_rounded 32 = .ok (.aload_n 0, 1) := by decide +kernel
theorem dX1_rounded_33 : decode cX1_rounded 33 = .ok (.getfield 27, 3) := by decide +kernel
theorem dX1_rounded_36 : decode cX1_rounded 36 = .ok (.bipush 6, 2) := by decide +kernel
theorem dX1_rounded_38 : decode cX1_rounded 38 = .ok (.iload_n 1, 1) := by decide +kernel
theorem dX1_rounded_39 : decode cX1_rounded 39 = .ok (.imul, 1) := by decide +kernel
theorem dX1_rounded_40 : decode cX1_rounded 40 = .ok (.iload_n 2, 1) := by decide +kernel
theorem dX1_rounded_41 : decode cX1_rounded 41 = .ok (.iadd, 1) := by decide +kernel
theorem dX1_rounded_42 : decode cX1_rounded 42 = .ok (.iaload, 1) := by decide +kernel
theorem dX1_rounded_43 : decode cX1_rounded 43 = .ok (.ireturn, 1) := by decide +kernel
set_option maxRecDepth 20000 in
theorem ggX1_wholeMisfit_X1_layWhole : GoodIn wsX1_wholeMisfit wsX1_layWhole := goodIn_ca (goodIn_r _ [8, 1, 9, 10, 11, 7, 12, 13, 14, 3, 15, 16, 17, 18, 19, 20, 21, 22, 23, 24, 25, 26, 27, 28, 29, 30, 31, 32, 33, 34, 35, 36, 37, 38] (by decide +kernel) (by decide +kernel)) (goodIn_sub (fun _ h => List.mem_cons_of_mem _ (List.mem_append_right _ h)) (by decide +kernel))
set_option maxRecDepth 20000 in
theorem gX1_wholeMisfit_X1_layWhole : GoodIn wsX1_wholeMisfit (wsV RX1 127 RX1 yX1_layWhole wsX1_layWhole) := goodIn_app (goodIn_of _ (by decide +kernel)) ggX1_wholeMisfit_X1_layWhole
theorem dX1_wholeMisfit_0 : decode cX1_wholeMisfit 0 = .ok (.aload_n 0, 1) := by decide +kernel
theorem dX1_wholeMisfit_1 : decode cX1_wholeMisfit 1 = .ok (.invokevirtual 127, 3) := by decide +kernel
theorem dX1_wholeMisfit_4 : decode cX1_wholeMisfit 4 = .ok (.iconst 0, 1) := by decide +kernel
theorem dX1_wholeMisfit_5 : decode cX1_wholeMisfit 5 = .ok (.istore_n 1, 1) := by decide +kernel
theorem dX1_wholeMisfit_6 : decode cX1_wholeMisfit 6 = .ok (.iconst 0, 1) := by decide +kernel
theorem dX1_wholeMisfit_7 : decode cX1_wholeMisfit 7 = .ok (.istore_n 2, 1) := by decide +kernel
theorem dX1_wholeMisfit_8 : decode cX1_wholeMisfit 8 = .ok (.iload_n 2, 1) := by decide +kernel
theorem dX1_wholeMisfit_9 : decode cX1_wholeMisfit 9 = .ok (.aload_n 0, 1) := by decide +kernel
theorem dX1_wholeMisfit_10 : decode cX1_wholeMisfit 10 = .ok (.getfield 7, 3) := by decide +kernel
theorem dX1_wholeMisfit_13 : decode cX1_wholeMisfit 13 = .ok (.if_icmp .ge 63, 3) := by decide +kernel
theorem dX1_wholeMisfit_16 : decode cX1_wholeMisfit 16 = .ok (.aload_n 0, 1) := by decide +kernel
theorem dX1_wholeMisfit_17 : decode cX1_wholeMisfit 17 = .ok (.getfield 17, 3) := by decide +kernel
theorem dX1_wholeMisfit_20 : decode cX1_wholeMisfit 20 = .ok (.iload_n 2, 1) := by decide +kernel
theorem dX1_wholeMisfit_21 : decode cX1_wholeMisfit 21 = .ok (.iaload, 1) := by decide +kernel
theorem dX1_wholeMisfit_22 : decode cX1_wholeMisfit 22 = .ok (.ineg, 1) := by decide +kernel
theorem dX1_wholeMisfit_23 : decode cX1_wholeMisfit 23 = .ok (.istore_n 3, 1) := by decide +kernel
theorem dX1_wholeMisfit_24 : decode cX1_wholeMisfit 24 = .ok (.iconst 0, 1) := by decide +kernel
theorem dX1_wholeMisfit_25 : decode cX1_wholeMisfit 25 = .ok (.istore 4, 2) := by decide +kernel
theorem dX1_wholeMisfit_27 : decode cX1_wholeMisfit 27 = .ok (.iload 4, 2) := by decide +kernel
theorem dX1_wholeMisfit_29 : decode cX1_wholeMisfit 29 = .ok (.aload_n 0, 1) := by decide +kernel
theorem dX1_wholeMisfit_30 : decode cX1_wholeMisfit 30 = .ok (.getfield 7, 3) := by decide +kernel
theorem dX1_wholeMisfit_33 : decode cX1_wholeMisfit 33 = .ok (.if_icmp .ge 24, 3) := by decide +kernel
theorem dX1_wholeMisfit_36 : decode cX1_wholeMisfit 36 = .ok (.iload_n 3, 1) := by decide +kernel
theorem dX1_wholeMisfit_37 : decode cX1_wholeMisfit 37 = .ok (.aload_n 0, 1) := by decide +kernel
theorem dX1_wholeMisfit_38 : decode cX1_wholeMisfit 38 = .ok (.getfield 27, 3) := by decide +kernel
theorem dX1_wholeMisfit_41 : decode cX1_wholeMisfit 41 = .ok (.bipush 6, 2) := by decide +kernel
theorem dX1_wholeMisfit_43 : decode cX1_wholeMisfit 43 = .ok (.iload 4, 2) := by decide +kernel
theorem dX1_wholeMisfit_45 : decode cX1_wholeMisfit 45 = .ok (.imul, 1) := by decide +kernel
theorem dX1_wholeMisfit_46 : decode cX1_wholeMisfit 46 = .ok (.iload_n 2, 1) := by decide +kernel
theorem dX1_wholeMisfit_47 : decode cX1_wholeMisfit 47 = .ok (.iadd, 1) := by decide +kernel
theorem dX1_wholeMisfit_48 : decode cX1_wholeMisfit 48 = .ok (.iaload, 1) := by decide +kernel
theorem dX1_wholeMisfit_49 : decode cX1_wholeMisfit 49 = .ok (.iadd, 1) := by decide +kernel
theorem dX1_wholeMisfit_50 : decode cX1_wholeMisfit 50 = .ok (.istore_n 3, 1) := by decide +kernel
theorem dX1_wholeMisfit_51 : decode cX1_wholeMisfit 51 = .ok (.iinc 4 1, 3) := by decide +kernel
theorem dX1_wholeMisfit_54 : decode cX1_wholeMisfit 54 = .ok (.goto (-27), 3) := by decide +kernel
theorem dX1_wholeMisfit_57 : decode cX1_wholeMisfit 57 = .ok (.iload_n 1, 1) := by decide +kernel
theorem dX1_wholeMisfit_58 : decode cX1_wholeMisfit 58 = .ok (.iload_n 3, 1) := by decide +kernel
theorem dX1_wholeMisfit_59 : decode cX1_wholeMisfit 59 = .ok (.ifCond .ge 8, 3) := by decide +kernel
theorem dX1_wholeMisfit_62 : decode cX1_wholeMisfit 62 = .ok (.iload_n 3, 1) := by decide +kernel
theorem dX1_wholeMisfit_63 : decode cX1_wholeMisfit 63 = .ok (.ineg, 1) := by decide +kernel
theorem dX1_wholeMisfit_64 : decode cX1_wholeMisfit 64 = .ok (.goto 4, 3) := by decide +kernel
theorem dX1_wholeMisfit_67 : decode cX1_wholeMisfit 67 = .ok (.iload_n 3, 1) := by decide +kernel
theorem dX1_wholeMisfit_68 : decode cX1_wholeMisfit 68 = .ok (.iadd, 1) := by decide +kernel
theorem dX1_wholeMisfit_69 : decode cX1_wholeMisfit 69 = .ok (.istore_n 1, 1) := by decide +kernel
theorem dX1_wholeMisfit_70 : decode cX1_wholeMisfit 70 = .ok (.iinc 2 1, 3) := by decide +kernel
theorem dX1_wholeMisfit_73 : decode cX1_wholeMisfit 73 = .ok (.goto (-65), 3) := by decide +kernel
theorem dX1_wholeMisfit_76 : decode cX1_wholeMisfit 76 = .ok (.iload_n 1, 1) := by decide +kernel
theorem dX1_wholeMisfit_77 : decode cX1_wholeMisfit 77 = .ok (.ireturn, 1) := by decide +kernel
set_option maxRecDepth 20000 in
theorem ggX1_roundedMisfit_X1_wholeMisfit : GoodIn wsX1_roundedMisfit wsX1_wholeMisfit := goodIn_ca (goodIn_r _ [6, 7, 8, 9, 10, 11, 12, 5, 13, 14, 15, 16, 17, 18, 19, 20, 21, 22, 23, 24, 25, 26, 27, 28, 29, 30, 31, 32, 33, 34, 35, 36, 37, 38, 39, 40, 41, 42, 43] (by decide +kernel) (by decide +kernel)) (goodIn_sub (fun _ h => List.mem_cons_of_mem _ (List.mem_append_right _ h)) (by decide +kernel))
set_option maxRecDepth 20000 in
theorem gX1_roundedMisfit_X1_wholeMisfit : GoodIn wsX1_roundedMisfit (wsV RX1 130 RX1 yX1_wholeMisfit wsX1_wholeMisfit) := goodIn_app (goodIn_of _ (by decide +kernel)) ggX1_roundedMisfit_X1_wholeMisfit
theorem dX1_roundedMisfit_0 : decode cX1_roundedMisfit 0 = .ok (.aload_n 0, 1) := by decide +kernel
theorem dX1_roundedMisfit_1 : decode cX1_roundedMisfit 1 = .ok (.iconst 0, 1) := by decide +kernel
theorem dX1_roundedMisfit_2 : decode cX1_roundedMisfit 2 = .ok (.putfield 45, 3) := by decide +kernel
theorem dX1_roundedMisfit_5 : decode cX1_roundedMisfit 5 = .ok (.aload_n 0, 1) := by decide +kernel
theorem dX1_roundedMisfit_6 : decode cX1_roundedMisfit 6 = .ok (.invokevirtual 130, 3) := by decide +kernel
theorem dX1_roundedMisfit_9 : decode cX1_roundedMisfit 9 = .ok (.ireturn, 1) := by decide +kernel
theorem dX1_leftBy_0 : decode cX1_leftBy 0 = .ok (.iconst 0, 1) := by decide +kernel
theorem dX1_leftBy_1 : decode cX1_leftBy 1 = .ok (.istore_n 3, 1) := by decide +kernel
theorem dX1_leftBy_2 : decode cX1_leftBy 2 = .ok (.iconst 0, 1) := by decide +kernel
theorem dX1_leftBy_3 : decode cX1_leftBy 3 = .ok (.istore 4, 2) := by decide +kernel
theorem dX1_leftBy_5 : decode cX1_leftBy 5 = .ok (.iconst 0, 1) := by decide +kernel
theorem dX1_leftBy_6 : decode cX1_leftBy 6 = .ok (.istore 5, 2) := by decide +kernel
theorem dX1_leftBy_8 : decode cX1_leftBy 8 = .ok (.iload 5, 2) := by decide +kernel
theorem dX1_leftBy_10 : decode cX1_leftBy 10 = .ok (.aload_n 0, 1) := by decide +kernel
theorem dX1_leftBy_11 : decode cX1_leftBy 11 = .ok (.getfield 7, 3) := by decide +kernel
theorem dX1_leftBy_14 : decode cX1_leftBy 14 = .ok (.if_icmp .ge 110, 3) := by decide +kernel
theorem dX1_leftBy_17 : decode cX1_leftBy 17 = .ok (.iconst 0, 1) := by decide +kernel
theorem dX1_leftBy_18 : decode cX1_leftBy 18 = .ok (.istore 6, 2) := by decide +kernel
theorem dX1_leftBy_20 : decode cX1_leftBy 20 = .ok (.iconst 0, 1) := by decide +kernel
theorem dX1_leftBy_21 : decode cX1_leftBy 21 = .ok (.istore 7, 2) := by decide +kernel
theorem dX1_leftBy_23 : decode cX1_leftBy 23 = .ok (.iload 7, 2) := by decide +kernel
theorem dX1_leftBy_25 : decode cX1_leftBy 25 = .ok (.aload_n 0, 1) := by decide +kernel
theorem dX1_leftBy_26 : decode cX1_leftBy 26 = .ok (.getfield 7, 3) := by decide +kernel
theorem dX1_leftBy_29 : decode cX1_leftBy 29 = .ok (.if_icmp .ge 47, 3) := by decide +kernel
theorem dX1_leftBy_32 : decode cX1_leftBy 32 = .ok (.iload 6, 2) := by decide +kernel
theorem dX1_leftBy_34 : decode cX1_leftBy 34 = .ok (.ifCond .ne 29, 3) := by decide +kernel
theorem dX1_leftBy_37 : decode cX1_leftBy 37 = .ok (.iload_n 1, 1) := by decide +kernel
theorem dX1_leftBy_38 : decode cX1_leftBy 38 = .ok (.iload 7, 2) := by decide +kernel
theorem dX1_leftBy_40 : decode cX1_leftBy 40 = .ok (.ishr, 1) := by decide +kernel
theorem dX1_leftBy_41 : decode cX1_leftBy 41 = .ok (.iconst 1, 1) := by decide +kernel
theorem dX1_leftBy_42 : decode cX1_leftBy 42 = .ok (.iand, 1) := by decide +kernel
theorem dX1_leftBy_43 : decode cX1_leftBy 43 = .ok (.iconst 1, 1) := by decide +kernel
theorem dX1_leftBy_44 : decode cX1_leftBy 44 = .ok (.if_icmp .ne 23, 3) := by decide +kernel
theorem dX1_leftBy_47 : decode cX1_leftBy 47 = .ok (.aload_n 0, 1) := by decide +kernel
theorem dX1_leftBy_48 : decode cX1_leftBy 48 = .ok (.getfield 20, 3) := by decide +kernel
theorem dX1_leftBy_51 : decode cX1_leftBy 51 = .ok (.bipush 6, 2) := by decide +kernel
theorem dX1_leftBy_53 : decode cX1_leftBy 53 = .ok (.iload 7, 2) := by decide +kernel
theorem dX1_leftBy_55 : decode cX1_leftBy 55 = .ok (.imul, 1) := by decide +kernel
theorem dX1_leftBy_56 : decode cX1_leftBy 56 = .ok (.iload 5, 2) := by decide +kernel
theorem dX1_leftBy_58 : decode cX1_leftBy 58 = .ok (.iadd, 1) := by decide +kernel
theorem dX1_leftBy_59 : decode cX1_leftBy 59 = .ok (.iaload, 1) := by decide +kernel
theorem dX1_leftBy_60 : decode cX1_leftBy 60 = .ok (.ifCond .le 7, 3) := by decide +kernel
theorem dX1_leftBy_63 : decode cX1_leftBy 63 = .ok (.iconst 1, 1) := by decide +kernel
theorem dX1_leftBy_64 : decode cX1_leftBy 64 = .ok (.goto 4, 3) := by decide +kernel
theorem dX1_leftBy_67 : decode cX1_leftBy 67 = .ok (.iconst 0, 1) := by decide +kernel
theorem dX1_leftBy_68 : decode cX1_leftBy 68 = .ok (.istore 6, 2) := by decide +kernel
theorem dX1_leftBy_70 : decode cX1_leftBy 70 = .ok (.iinc 7 1, 3) := by decide +kernel
theorem dX1_leftBy_73 : decode cX1_leftBy 73 = .ok (.goto (-50), 3) := by decide +kernel
theorem dX1_leftBy_76 : decode cX1_leftBy 76 = .ok (.iload 4, 2) := by decide +kernel
theorem dX1_leftBy_78 : decode cX1_leftBy 78 = .ok (.iload 6, 2) := by decide +kernel
theorem dX1_leftBy_80 : decode cX1_leftBy 80 = .ok (.ifCond .eq 13, 3) := by decide +kernel
theorem dX1_leftBy_83 : decode cX1_leftBy 83 = .ok (.aload_n 0, 1) := by decide +kernel
theorem dX1_leftBy_84 : decode cX1_leftBy 84 = .ok (.getfield 39, 3) := by decide +kernel
theorem dX1_leftBy_87 : decode cX1_leftBy 87 = .ok (.iload 5, 2) := by decide +kernel
theorem dX1_leftBy_89 : decode cX1_leftBy 89 = .ok (.iaload, 1) := by decide +kernel
theorem dX1_leftBy_90 : decode cX1_leftBy 90 = .ok (.goto 4, 3) := by decide +kernel
theorem dX1_leftBy_93 : decode cX1_leftBy 93 = .ok (.iconst 0, 1) := by decide +kernel
theorem dX1_leftBy_94 : decode cX1_leftBy 94 = .ok (.iadd, 1) := by decide +kernel
theorem dX1_leftBy_95 : decode cX1_leftBy 95 = .ok (.istore 4, 2) := by decide +kernel
theorem dX1_leftBy_97 : decode cX1_leftBy 97 = .ok (.iload_n 3, 1) := by decide +kernel
theorem dX1_leftBy_98 : decode cX1_leftBy 98 = .ok (.ifCond .ne 14, 3) := by decide +kernel
theorem dX1_leftBy_101 : decode cX1_leftBy 101 = .ok (.iload 6, 2) := by decide +kernel
theorem dX1_leftBy_103 : decode cX1_leftBy 103 = .ok (.ifCond .eq 13, 3) := by decide +kernel
theorem dX1_leftBy_106 : decode cX1_leftBy 106 = .ok (.iload 5, 2) := by decide +kernel
theorem dX1_leftBy_108 : decode cX1_leftBy 108 = .ok (.iload_n 2, 1) := by decide +kernel
theorem dX1_leftBy_109 : decode cX1_leftBy 109 = .ok (.if_icmp .ne 7, 3) := by decide +kernel
theorem dX1_leftBy_112 : decode cX1_leftBy 112 = .ok (.iconst 1, 1) := by decide +kernel
theorem dX1_leftBy_113 : decode cX1_leftBy 113 = .ok (.goto 4, 3) := by decide +kernel
theorem dX1_leftBy_116 : decode cX1_leftBy 116 = .ok (.iconst 0, 1) := by decide +kernel
theorem dX1_leftBy_117 : decode cX1_leftBy 117 = .ok (.istore_n 3, 1) := by decide +kernel
theorem dX1_leftBy_118 : decode cX1_leftBy 118 = .ok (.iinc 5 1, 3) := by decide +kernel
theorem dX1_leftBy_121 : decode cX1_leftBy 121 = .ok (.goto (-113), 3) := by decide +kernel
theorem dX1_leftBy_124 : decode cX1_leftBy 124 = .ok (.iconst 0, 1) := by decide +kernel
theorem dX1_leftBy_125 : decode cX1_leftBy 125 = .ok (.istore 5, 2) := by decide +kernel
theorem dX1_leftBy_127 : decode cX1_leftBy 127 = .ok (.iload 5, 2) := by decide +kernel
theorem dX1_leftBy_129 : decode cX1_leftBy 129 = .ok (.aload_n 0, 1) := by decide +kernel
theorem dX1_leftBy_130 : decode cX1_leftBy 130 = .ok (.getfield 7, 3) := by decide +kernel
theorem dX1_leftBy_133 : decode cX1_leftBy 133 = .ok (.if_icmp .ge 35, 3) := by decide +kernel
theorem dX1_leftBy_136 : decode cX1_leftBy 136 = .ok (.iload 4, 2) := by decide +kernel
theorem dX1_leftBy_138 : decode cX1_leftBy 138 = .ok (.iload_n 1, 1) := by decide +kernel
theorem dX1_leftBy_139 : decode cX1_leftBy 139 = .ok (.iload 5, 2) := by decide +kernel
theorem dX1_leftBy_141 : decode cX1_leftBy 141 = .ok (.ishr, 1) := by decide +kernel
theorem dX1_leftBy_142 : decode cX1_leftBy 142 = .ok (.iconst 1, 1) := by decide +kernel
theorem dX1_leftBy_143 : decode cX1_leftBy 143 = .ok (.iand, 1) := by decide +kernel
theorem dX1_leftBy_144 : decode cX1_leftBy 144 = .ok (.iconst 1, 1) := by decide +kernel
theorem dX1_leftBy_145 : decode cX1_leftBy 145 = .ok (.if_icmp .ne 13, 3) := by decide +kernel
theorem dX1_leftBy_148 : decode cX1_leftBy 148 = .ok (.aload_n 0, 1) := by decide +kernel
theorem dX1_leftBy_149 : decode cX1_leftBy 149 = .ok (.getfield 36, 3) := by decide +kernel
theorem dX1_leftBy_152 : decode cX1_leftBy 152 = .ok (.iload 5, 2) := by decide +kernel
theorem dX1_leftBy_154 : decode cX1_leftBy 154 = .ok (.iaload, 1) := by decide +kernel
theorem dX1_leftBy_155 : decode cX1_leftBy 155 = .ok (.goto 4, 3) := by decide +kernel
theorem dX1_leftBy_158 : decode cX1_leftBy 158 = .ok (.iconst 0, 1) := by decide +kernel
theorem dX1_leftBy_159 : decode cX1_leftBy 159 = .ok (.isub, 1) := by decide +kernel
theorem dX1_leftBy_160 : decode cX1_leftBy 160 = .ok (.istore 4, 2) := by decide +kernel
theorem dX1_leftBy_162 : decode cX1_leftBy 162 = .ok (.iinc 5 1, 3) := by decide +kernel
theorem dX1_leftBy_165 : decode cX1_leftBy 165 = .ok (.goto (-38), 3) := by decide +kernel
theorem dX1_leftBy_168 : decode cX1_leftBy 168 = .ok (.iload_n 3, 1) := by decide +kernel
theorem dX1_leftBy_169 : decode cX1_leftBy 169 = .ok (.ifCond .eq 8, 3) := by decide +kernel
theorem dX1_leftBy_172 : decode cX1_leftBy 172 = .ok (.iload 4, 2) := by decide +kernel
theorem dX1_leftBy_174 : decode cX1_leftBy 174 = .ok (.goto 6, 3) := by decide +kernel
theorem dX1_leftBy_177 : decode cX1_leftBy 177 = .ok (.sipush 9999, 3) := by decide +kernel
theorem dX1_leftBy_180 : decode cX1_leftBy 180 = .ok (.ireturn, 1) := by decide +kernel
set_option maxRecDepth 20000 in
theorem ggX1_layCell_X1_leftBy : GoodIn wsX1_layCell wsX1_leftBy := goodIn_ca (goodIn_r _ [10, 3, 4, 2, 1, 11, 12, 13, 14, 15, 16, 17, 18, 19, 20, 21, 22, 23] (by decide +kernel) (by decide +kernel)) (goodIn_sub (fun _ h => List.mem_cons_of_mem _ (List.mem_append_right _ h)) (by decide +kernel))
set_option maxRecDepth 20000 in
theorem gX1_layCell_X1_leftBy : GoodIn wsX1_layCell (wsV RX1 133 RX1 yX1_leftBy wsX1_leftBy) := goodIn_app (goodIn_of _ (by decide +kernel)) ggX1_layCell_X1_leftBy
theorem dX1_layCell_0 : decode cX1_layCell 0 = .ok (.aload_n 0, 1) := by decide +kernel
theorem dX1_layCell_1 : decode cX1_layCell 1 = .ok (.getfield 36, 3) := by decide +kernel
theorem dX1_layCell_4 : decode cX1_layCell 4 = .ok (.iload_n 1, 1) := by decide +kernel
theorem dX1_layCell_5 : decode cX1_layCell 5 = .ok (.iaload, 1) := by decide +kernel
theorem dX1_layCell_6 : decode cX1_layCell 6 = .ok (.aload_n 0, 1) := by decide +kernel
theorem dX1_layCell_7 : decode cX1_layCell 7 = .ok (.getfield 39, 3) := by decide +kernel
theorem dX1_layCell_10 : decode cX1_layCell 10 = .ok (.iload_n 2, 1) := by decide +kernel
theorem dX1_layCell_11 : decode cX1_layCell 11 = .ok (.iaload, 1) := by decide +kernel
theorem dX1_layCell_12 : decode cX1_layCell 12 = .ok (.if_icmp .ge 12, 3) := by decide +kernel
theorem dX1_layCell_15 : decode cX1_layCell 15 = .ok (.aload_n 0, 1) := by decide +kernel
theorem dX1_layCell_16 : decode cX1_layCell 16 = .ok (.getfield 36, 3) := by decide +kernel
theorem dX1_layCell_19 : decode cX1_layCell 19 = .ok (.iload_n 1, 1) := by decide +kernel
theorem dX1_layCell_20 : decode cX1_layCell 20 = .ok (.iaload, 1) := by decide +kernel
theorem dX1_layCell_21 : decode cX1_layCell 21 = .ok (.goto 9, 3) := by decide +kernel
theorem dX1_layCell_24 : decode cX1_layCell 24 = .ok (.aload_n 0, 1) := by decide +kernel
theorem dX1_layCell_25 : decode cX1_layCell 25 = .ok (.getfield 39, 3) := by decide +kernel
theorem dX1_layCell_28 : decode cX1_layCell 28 = .ok (.iload_n 2, 1) := by decide +kernel
theorem dX1_layCell_29 : decode cX1_layCell 29 = .ok (.iaload, 1) := by decide +kernel
theorem dX1_layCell_30 : decode cX1_layCell 30 = .ok (.istore_n 3, 1) := by decide +kernel
theorem dX1_layCell_31 : decode cX1_layCell 31 = .ok (.iconst 0, 1) := by decide +kernel
theorem dX1_layCell_32 : decode cX1_layCell 32 = .ok (.istore 4, 2) := by decide +kernel
theorem dX1_layCell_34 : decode cX1_layCell 34 = .ok (.iload 4, 2) := by decide +kernel
theorem dX1_layCell_36 : decode cX1_layCell 36 = .ok (.iconst 1, 1) := by decide +kernel
theorem dX1_layCell_37 : decode cX1_layCell 37 = .ok (.aload_n 0, 1) := by decide +kernel
theorem dX1_layCell_38 : decode cX1_layCell 38 = .ok (.getfield 7, 3) := by decide +kernel
theorem dX1_layCell_41 : decode cX1_layCell 41 = .ok (.ishl, 1) := by decide +kernel
theorem dX1_layCell_42 : decode cX1_layCell 42 = .ok (.if_icmp .ge 46, 3) := by decide +kernel
theorem dX1_layCell_45 : decode cX1_layCell 45 = .ok (.iload 4, 2) := by decide +kernel
theorem dX1_layCell_47 : decode cX1_layCell 47 = .ok (.iload_n 1, 1) := by decide +kernel
theorem dX1_layCell_48 : decode cX1_layCell 48 = .ok (.iconst 1, 1) := by decide +kernel
theorem dX1_layCell_49 : decode cX1_layCell 49 = .ok (.iadd, 1) := by decide +kernel
theorem dX1_layCell_50 : decode cX1_layCell 50 = .ok (.ishr, 1) := by decide +kernel
theorem dX1_layCell_51 : decode cX1_layCell 51 = .ok (.iload_n 1, 1) := by decide +kernel
theorem dX1_layCell_52 : decode cX1_layCell 52 = .ok (.iconst 1, 1) := by decide +kernel
theorem dX1_layCell_53 : decode cX1_layCell 53 = .ok (.iadd, 1) := by decide +kernel
theorem dX1_layCell_54 : decode cX1_layCell 54 = .ok (.ishl, 1) := by decide +kernel
theorem dX1_layCell_55 : decode cX1_layCell 55 = .ok (.iload 4, 2) := by decide +kernel
theorem dX1_layCell_57 : decode cX1_layCell 57 = .ok (.if_icmp .ne 25, 3) := by decide +kernel
theorem dX1_layCell_60 : decode cX1_layCell 60 = .ok (.aload_n 0, 1) := by decide +kernel
theorem dX1_layCell_61 : decode cX1_layCell 61 = .ok (.iload 4, 2) := by decide +kernel
theorem dX1_layCell_63 : decode cX1_layCell 63 = .ok (.iload_n 2, 1) := by decide +kernel
theorem dX1_layCell_64 : decode cX1_layCell 64 = .ok (.invokevirtual 133, 3) := by decide +kernel
theorem dX1_layCell_67 : decode cX1_layCell 67 = .ok (.istore 5, 2) := by decide +kernel
theorem dX1_layCell_69 : decode cX1_layCell 69 = .ok (.iload 5, 2) := by decide +kernel
theorem dX1_layCell_71 : decode cX1_layCell 71 = .ok (.iload_n 3, 1) := by decide +kernel
theorem dX1_layCell_72 : decode cX1_layCell 72 = .ok (.if_icmp .ge 8, 3) := by decide +kernel
theorem dX1_layCell_75 : decode cX1_layCell 75 = .ok (.iload 5, 2) := by decide +kernel
theorem dX1_layCell_77 : decode cX1_layCell 77 = .ok (.goto 4, 3) := by decide +kernel
theorem dX1_layCell_80 : decode cX1_layCell 80 = .ok (.iload_n 3, 1) := by decide +kernel
theorem dX1_layCell_81 : decode cX1_layCell 81 = .ok (.istore_n 3, 1) := by decide +kernel
theorem dX1_layCell_82 : decode cX1_layCell 82 = .ok (.iinc 4 1, 3) := by decide +kernel
theorem dX1_layCell_85 : decode cX1_layCell 85 = .ok (.goto (-51), 3) := by decide +kernel
theorem dX1_layCell_88 : decode cX1_layCell 88 = .ok (.aload_n 0, 1) := by decide +kernel
theorem dX1_layCell_89 : decode cX1_layCell 89 = .ok (.getfield 20, 3) := by decide +kernel
theorem dX1_layCell_92 : decode cX1_layCell 92 = .ok (.bipush 6, 2) := by decide +kernel
theorem dX1_layCell_94 : decode cX1_layCell 94 = .ok (.iload_n 1, 1) := by decide +kernel
theorem dX1_layCell_95 : decode cX1_layCell 95 = .ok (.imul, 1) := by decide +kernel
theorem dX1_layCell_96 : decode cX1_layCell 96 = .ok (.iload_n 2, 1) := by decide +kernel
theorem dX1_layCell_97 : decode cX1_layCell 97 = .ok (.iadd, 1) := by decide +kernel
theorem dX1_layCell_98 : decode cX1_layCell 98 = .ok (.iaload, 1) := by decide +kernel
theorem dX1_layCell_99 : decode cX1_layCell 99 = .ok (.ifCond .le 7, 3) := by decide +kernel
theorem dX1_layCell_102 : decode cX1_layCell 102 = .ok (.iload_n 3, 1) := by decide +kernel
theorem dX1_layCell_103 : decode cX1_layCell 103 = .ok (.goto 4, 3) := by decide +kernel
theorem dX1_layCell_106 : decode cX1_layCell 106 = .ok (.iconst 0, 1) := by decide +kernel
theorem dX1_layCell_107 : decode cX1_layCell 107 = .ok (.istore 4, 2) := by decide +kernel
theorem dX1_layCell_109 : decode cX1_layCell 109 = .ok (.aload_n 0, 1) := by decide +kernel
theorem dX1_layCell_110 : decode cX1_layCell 110 = .ok (.getfield 33, 3) := by decide +kernel
theorem dX1_layCell_113 : decode cX1_layCell 113 = .ok (.bipush 6, 2) := by decide +kernel
theorem dX1_layCell_115 : decode cX1_layCell 115 = .ok (.iload_n 1, 1) := by decide +kernel
theorem dX1_layCell_116 : decode cX1_layCell 116 = .ok (.imul, 1) := by decide +kernel
theorem dX1_layCell_117 : decode cX1_layCell 117 = .ok (.iload_n 2, 1) := by decide +kernel
theorem dX1_layCell_118 : decode cX1_layCell 118 = .ok (.iadd, 1) := by decide +kernel
theorem dX1_layCell_119 : decode cX1_layCell 119 = .ok (.iload 4, 2) := by decide +kernel
theorem dX1_layCell_121 : decode cX1_layCell 121 = .ok (.iastore, 1) := by decide +kernel
theorem dX1_layCell_122 : decode cX1_layCell 122 = .ok (.aload_n 0, 1) := by decide +kernel
theorem dX1_layCell_123 : decode cX1_layCell 123 = .ok (.getfield 36, 3) := by decide +kernel
theorem dX1_layCell_126 : decode cX1_layCell 126 = .ok (.iload_n 1, 1) := by decide +kernel
theorem dX1_layCell_127 : decode cX1_layCell 127 = .ok (.dup2, 1) := by decide +kernel
theorem dX1_layCell_128 : decode cX1_layCell 128 = .ok (.iaload, 1) := by decide +kernel
theorem dX1_layCell_129 : decode cX1_layCell 129 = .ok (.iload 4, 2) := by decide +kernel
theorem dX1_layCell_131 : decode cX1_layCell 131 = .ok (.isub, 1) := by decide +kernel
theorem dX1_layCell_132 : decode cX1_layCell 132 = .ok (.iastore, 1) := by decide +kernel
theorem dX1_layCell_133 : decode cX1_layCell 133 = .ok (.aload_n 0, 1) := by decide +kernel
theorem dX1_layCell_134 : decode cX1_layCell 134 = .ok (.getfield 39, 3) := by decide +kernel
theorem dX1_layCell_137 : decode cX1_layCell 137 = .ok (.iload_n 2, 1) := by decide +kernel
theorem dX1_layCell_138 : decode cX1_layCell 138 = .ok (.dup2, 1) := by decide +kernel
theorem dX1_layCell_139 : decode cX1_layCell 139 = .ok (.iaload, 1) := by decide +kernel
theorem dX1_layCell_140 : decode cX1_layCell 140 = .ok (.iload 4, 2) := by decide +kernel
theorem dX1_layCell_142 : decode cX1_layCell 142 = .ok (.isub, 1) := by decide +kernel
theorem dX1_layCell_143 : decode cX1_layCell 143 = .ok (.iastore, 1) := by decide +kernel
theorem dX1_layCell_144 : decode cX1_layCell 144 = .ok (.return_, 1) := by decide +kernel
set_option maxRecDepth 20000 in
theorem ggX1_layTable_X1_layCell : GoodIn wsX1_layTable wsX1_layCell := goodIn_ca (goodIn_r _ [10, 2, 4, 1, 11, 12, 13, 14, 15, 9, 16, 17, 18, 19, 20, 21, 22, 23, 24, 25, 26, 27, 28, 29] (by decide +kernel) (by decide +kernel)) (goodIn_sub (fun _ h => List.mem_cons_of_mem _ (List.mem_append_right _ h)) (by decide +kernel))
set_option maxRecDepth 20000 in
theorem gX1_layTable_X1_layCell : GoodIn wsX1_layTable (wsV RX1 136 RX1 yX1_layCell wsX1_layCell) := goodIn_app (goodIn_of _ (by decide +kernel)) ggX1_layTable_X1_layCell
theorem dX1_layTable_0 : decode cX1_layTable 0 = .ok (.iconst 0, 1) := by decide +kernel
theorem dX1_layTable_1 : decode cX1_layTable 1 = .ok (.istore_n 1, 1) := by decide +kernel
theorem dX1_layTable_2 : decode cX1_layTable 2 = .ok (.iload_n 1, 1) := by decide +kernel
theorem dX1_layTable_3 : decode cX1_layTable 3 = .ok (.aload_n 0, 1) := by decide +kernel
theorem dX1_layTable_4 : decode cX1_layTable 4 = .ok (.getfield 7, 3) := by decide +kernel
theorem dX1_layTable_7 : decode cX1_layTable 7 = .ok (.if_icmp .ge 33, 3) := by decide +kernel
theorem dX1_layTable_10 : decode cX1_layTable 10 = .ok (.aload_n 0, 1) := by decide +kernel
theorem dX1_layTable_11 : decode cX1_layTable 11 = .ok (.getfield 36, 3) := by decide +kernel
theorem dX1_layTable_14 : decode cX1_layTable 14 = .ok (.iload_n 1, 1) := by decide +kernel
theorem dX1_layTable_15 : decode cX1_layTable 15 = .ok (.aload_n 0, 1) := by decide +kernel
theorem dX1_layTable_16 : decode cX1_layTable 16 = .ok (.getfield 13, 3) := by decide +kernel
theorem dX1_layTable_19 : decode cX1_layTable 19 = .ok (.iload_n 1, 1) := by decide +kernel
theorem dX1_layTable_20 : decode cX1_layTable 20 = .ok (.iaload, 1) := by decide +kernel
theorem dX1_layTable_21 : decode cX1_layTable 21 = .ok (.iastore, 1) := by decide +kernel
theorem dX1_layTable_22 : decode cX1_layTable 22 = .ok (.aload_n 0, 1) := by decide +kernel
theorem dX1_layTable_23 : decode cX1_layTable 23 = .ok (.getfield 39, 3) := by decide +kernel
theorem dX1_layTable_26 : decode cX1_layTable 26 = .ok (.iload_n 1, 1) := by decide +kernel
theorem dX1_layTable_27 : decode cX1_layTable 27 = .ok (.aload_n 0, 1) := by decide +kernel
theorem dX1_layTable_28 : decode cX1_layTable 28 = .ok (.getfield 17, 3) := by decide +kernel
theorem dX1_layTable_31 : decode cX1_layTable 31 = .ok (.iload_n 1, 1) := by decide +kernel
theorem dX1_layTable_32 : decode cX1_layTable 32 = .ok (.iaload, 1) := by decide +kernel
theorem dX1_layTable_33 : decode cX1_layTable 33 = .ok (.iastore, 1) := by decide +kernel
theorem dX1_layTable_34 : decode cX1_layTable 34 = .ok (.iinc 1 1, 3) := by decide +kernel
theorem dX1_layTable_37 : decode cX1_layTable 37 = .ok (.goto (-35), 3) := by decide +kernel
theorem dX1_layTable_40 : decode cX1_layTable 40 = .ok (.iconst 0, 1) := by decide +kernel
theorem dX1_layTable_41 : decode cX1_layTable 41 = .ok (.istore_n 1, 1) := by decide +kernel
theorem dX1_layTable_42 : decode cX1_layTable 42 = .ok (.iload_n 1, 1) := by decide +kernel
theorem dX1_layTable_43 : decode cX1_layTable 43 = .ok (.aload_n 0, 1) := by decide +kernel
theorem dX1_layTable_44 : decode cX1_layTable 44 = .ok (.getfield 7, 3) := by decide +kernel
theorem dX1_layTable_47 : decode cX1_layTable 47 = .ok (.if_icmp .ge 31, 3) := by decide +kernel
theorem dX1_layTable_50 : decode cX1_layTable 50 = .ok (.iconst 0, 1) := by decide +kernel
theorem dX1_layTable_51 : decode cX1_layTable 51 = .ok (.istore_n 2, 1) := by decide +kernel
theorem dX1_layTable_52 : decode cX1_layTable 52 = .ok (.iload_n 2, 1) := by decide +kernel
theorem dX1_layTable_53 : decode cX1_layTable 53 = .ok (.aload_n 0, 1) := by decide +kernel
theorem dX1_layTable_54 : decode cX1_layTable 54 = .ok (.getfield 7, 3) := by decide +kernel
theorem dX1_layTable_57 : decode cX1_layTable 57 = .ok (.if_icmp .ge 15, 3) := by decide +kernel
theorem dX1_layTable_60 : decode cX1_layTable 60 = .ok (.aload_n 0, 1) := by decide +kernel
theorem dX1_layTable_61 : decode cX1_layTable 61 = .ok (.iload_n 1, 1) := by decide +kernel
theorem dX1_layTable_62 : decode cX1_layTable 62 = .ok (.iload_n 2, 1) := by decide +kernel
theorem dX1_layTable_63 : decode cX1_layTable 63 = .ok (.invokevirtual 136, 3) := by decide +kernel
theorem dX1_layTable_66 : decode cX1_layTable 66 = .ok (.iinc 2 1, 3) := by decide +kernel
theorem dX1_layTable_69 : decode cX1_layTable 69 = .ok (.goto (-17), 3) := by decide +kernel
theorem dX1_layTable_72 : decode cX1_layTable 72 = .ok (.iinc 1 1, 3) := by decide +kernel
theorem dX1_layTable_75 : decode cX1_layTable 75 = .ok (.goto (-33), 3) := by decide +kernel
theorem dX1_layTable_78 : decode cX1_layTable 78 = .ok (.return_, 1) := by decide +kernel
set_option maxRecDepth 20000 in
theorem ggX1_possibleNow_X1_arePossible : GoodIn wsX1_possibleNow wsX1_arePossible := goodIn_ca (goodIn_r _ [6, 7, 8, 9, 5, 10, 11, 12, 13, 14, 15, 16, 17, 18, 19, 20, 21, 22, 37, 38, 39, 40, 41, 42, 43, 44, 45, 46, 47, 48, 49] (by decide +kernel) (by decide +kernel)) (goodIn_sub (fun _ h => List.mem_cons_of_mem _ (List.mem_append_right _ h)) (by decide +kernel))
set_option maxRecDepth 20000 in
theorem gX1_possibleNow_X1_arePossible : GoodIn wsX1_possibleNow (wsV RX1 80 RX1 yX1_arePossible wsX1_arePossible) := goodIn_app (goodIn_of _ (by decide +kernel)) ggX1_possibleNow_X1_arePossible
set_option maxRecDepth 20000 in
theorem ggX1_possibleNow_X1_layTable : GoodIn wsX1_possibleNow wsX1_layTable := goodIn_ca (goodIn_r _ [26, 11, 27, 12, 28, 13, 29, 30, 31, 5, 32, 22, 1, 33, 34, 35, 36, 37, 38, 39, 40, 41, 42, 43, 44, 45, 46, 47, 48, 49] (by decide +kernel) (by decide +kernel)) (goodIn_sub (fun _ h => List.mem_cons_of_mem _ (List.mem_append_right _ h)) (by decide +kernel))
set_option maxRecDepth 20000 in
theorem gX1_possibleNow_X1_layTable : GoodIn wsX1_possibleNow (wsV RX1 140 RX1 yX1_layTable wsX1_layTable) := goodIn_app (goodIn_of _ (by decide +kernel)) ggX1_possibleNow_X1_layTable
theorem dX1_possibleNow_0 : decode cX1_possibleNow 0 = .ok (.aload_n 0, 1) := by decide +kernel
theorem dX1_possibleNow_1 : decode cX1_possibleNow 1 = .ok (.invokevirtual 80, 3) := by decide +kernel
theorem dX1_possibleNow_4 : decode cX1_possibleNow 4 = .ok (.ifCond .ne 5, 3) := by decide +kernel
theorem dX1_possibleNow_7 : decode cX1_possibleNow 7 = .ok (.iconst (-1), 1) := by decide +kernel
theorem dX1_possibleNow_8 : decode cX1_possibleNow 8 = .ok (.ireturn, 1) := by decide +kernel
theorem dX1_possibleNow_9 : decode cX1_possibleNow 9 = .ok (.aload_n 0, 1) := by decide +kernel
theorem dX1_possibleNow_10 : decode cX1_possibleNow 10 = .ok (.invokevirtual 140, 3) := by decide +kernel
theorem dX1_possibleNow_13 : decode cX1_possibleNow 13 = .ok (.aload_n 0, 1) := by decide +kernel
theorem dX1_possibleNow_14 : decode cX1_possibleNow 14 = .ok (.getfield 33, 3) := by decide +kernel
theorem dX1_possibleNow_17 : decode cX1_possibleNow 17 = .ok (.bipush 6, 2) := by decide +kernel
theorem dX1_possibleNow_19 : decode cX1_possibleNow 19 = .ok (.iload_n 1, 1) := by decide +kernel
theorem dX1_possibleNow_20 : decode cX1_possibleNow 20 = .ok (.imul, 1) := by decide +kernel
theorem dX1_possibleNow_21 : decode cX1_possibleNow 21 = .ok (.iload_n 2, 1) := by decide +kernel
theorem dX1_possibleNow_22 : decode cX1_possibleNow 22 = .ok (.iadd, 1) := by decide +kernel
theorem dX1_possibleNow_23 : decode cX1_possibleNow 23 = .ok (.iaload, 1) := by decide +kernel
theorem dX1_possibleNow_24 : decode cX1_possibleNow 24 = .ok (.ireturn, 1) := by decide +kernel
set_option maxRecDepth 20000 in
theorem ggX1_possible_X1_areArms : GoodIn wsX1_possible wsX1_areArms := goodIn_r _ [6, 7, 8, 9, 5, 10, 11, 12, 13, 14, 53, 54, 55, 56, 57, 58, 59, 60, 61, 62, 63, 64, 65] (by decide +kernel) (by decide +kernel)
set_option maxRecDepth 20000 in
theorem gX1_possible_X1_areArms : GoodIn wsX1_possible (wsV RX1 112 RX1 yX1_areArms wsX1_areArms) := goodIn_app (goodIn_of _ (by decide +kernel)) ggX1_possible_X1_areArms
set_option maxRecDepth 20000 in
theorem ggX1_possible_X1_possibleNow : GoodIn wsX1_possible wsX1_possibleNow := goodIn_ca (goodIn_r _ [18, 19, 20, 21, 22, 5, 23, 24, 25, 26, 27, 11, 28, 29, 30, 31, 32, 33, 34, 35, 36, 37, 38, 39, 40, 41, 42, 43, 44, 45, 46, 47, 48, 49, 50, 51, 52, 53, 54, 55, 56, 57, 58, 59, 60, 61, 62, 63, 64, 65] (by decide +kernel) (by decide +kernel)) (goodIn_sub (fun _ h => List.mem_cons_of_mem _ (List.mem_append_right _ h)) (by decide +kernel))
set_option maxRecDepth 20000 in
theorem gX1_possible_X1_possibleNow : GoodIn wsX1_possible (wsV RX1 143 RX1 yX1_possibleNow wsX1_possibleNow) := goodIn_app (goodIn_of _ (by decide +kernel)) ggX1_possible_X1_possibleNow
theorem dX1_possible_0 : decode cX1_possible 0 = .ok (.aload_n 0, 1) := by decide +kernel
theorem dX1_possible_1 : decode cX1_possible 1 = .ok (.aload_n 0, 1) := by decide +kernel
theorem dX1_possible_2 : decode cX1_possible 2 = .ok (.iload_n 1, 1) := by decide +kernel
theorem dX1_possible_3 : decode cX1_possible 3 = .ok (.iload_n 2, 1) := by decide +kernel
theorem dX1_possible_4 : decode cX1_possible 4 = .ok (.invokevirtual 112, 3) := by decide +kernel
theorem dX1_possible_7 : decode cX1_possible 7 = .ok (.ifCond .eq 7, 3) := by decide +kernel
theorem dX1_possible_10 : decode cX1_possible 10 = .ok (.iconst 0, 1) := by decide +kernel
theorem dX1_possible_11 : decode cX1_possible 11 = .ok (.goto 4, 3) := by decide +kernel
theorem dX1_possible_14 : decode cX1_possible 14 = .ok (.iconst 1, 1) := by decide +kernel
theorem dX1_possible_15 : decode cX1_possible 15 = .ok (.putfield 45, 3) := by decide +kernel
theorem dX1_possible_18 : decode cX1_possible 18 = .ok (.aload_n 0, 1) := by decide +kernel
theorem dX1_possible_19 : decode cX1_possible 19 = .ok (.getfield 45, 3) := by decide +kernel
theorem dX1_possible_22 : decode cX1_possible 22 = .ok (.ifCond .le 7, 3) := by decide +kernel
theorem dX1_possible_25 : decode cX1_possible 25 = .ok (.iconst 0, 1) := by decide +kernel
theorem dX1_possible_26 : decode cX1_possible 26 = .ok (.goto 9, 3) := by decide +kernel
theorem dX1_possible_29 : decode cX1_possible 29 = .ok (.aload_n 0, 1) := by decide +kernel
theorem dX1_possible_30 : decode cX1_possible 30 = .ok (.iload_n 1, 1) := by decide +kernel
theorem dX1_possible_31 : decode cX1_possible 31 = .ok (.iload_n 2, 1) := by decide +kernel
theorem dX1_possible_32 : decode cX1_possible 32 = .ok (.invokevirtual 143, 3) := by decide +kernel
theorem dX1_possible_35 : decode cX1_possible 35 = .ok (.ireturn, 1) := by decide +kernel
theorem dX1_mix_0 : decode cX1_mix 0 = .ok (.aload_n 0, 1) := by decide +kernel
theorem dX1_mix_1 : decode cX1_mix 1 = .ok (.ldc2_w 146, 3) := by decide +kernel
theorem dX1_mix_4 : decode cX1_mix 4 = .ok (.aload_n 0, 1) := by decide +kernel
theorem dX1_mix_5 : decode cX1_mix 5 = .ok (.getfield 148, 3) := by decide +kernel
theorem dX1_mix_8 : decode cX1_mix 8 = .ok (.lmul, 1) := by decide +kernel
theorem dX1_mix_9 : decode cX1_mix 9 = .ok (.lload_n 1, 1) := by decide +kernel
theorem dX1_mix_10 : decode cX1_mix 10 = .ok (.ladd, 1) := by decide +kernel
theorem dX1_mix_11 : decode cX1_mix 11 = .ok (.putfield 148, 3) := by decide +kernel
theorem dX1_mix_14 : decode cX1_mix 14 = .ok (.return_, 1) := by decide +kernel
set_option maxRecDepth 20000 in
theorem ggX1_mixTurns_X1_layWhole : GoodIn wsX1_mixTurns wsX1_layWhole := goodIn_ca (goodIn_r _ [12, 1, 13, 14, 15, 11, 16, 3, 17, 5, 18, 19, 20, 21, 22, 23, 24, 25, 26, 27, 2, 65, 66, 67, 68, 69, 70, 71, 72, 73, 74, 75, 76, 77] (by decide +kernel) (by decide +kernel)) (goodIn_sub (fun _ h => List.mem_cons_of_mem _ (List.mem_append_right _ h)) (by decide +kernel))
set_option maxRecDepth 20000 in
theorem gX1_mixTurns_X1_layWhole : GoodIn wsX1_mixTurns (wsV RX1 127 RX1 yX1_layWhole wsX1_layWhole) := goodIn_app (goodIn_of _ (by decide +kernel)) ggX1_mixTurns_X1_layWhole
set_option maxRecDepth 20000 in
theorem ggX1_mixTurns_X1_arePossible : GoodIn wsX1_mixTurns wsX1_arePossible := goodIn_ca (goodIn_r _ [31, 32, 33, 34, 11, 35, 1, 17, 36, 37, 38, 39, 40, 41, 42, 43, 44, 2, 65, 66, 67, 68, 69, 70, 71, 72, 73, 74, 75, 76, 77] (by decide +kernel) (by decide +kernel)) (goodIn_sub (fun _ h => List.mem_cons_of_mem _ (List.mem_append_right _ h)) (by decide +kernel))
set_option maxRecDepth 20000 in
theorem gX1_mixTurns_X1_arePossible : GoodIn wsX1_mixTurns (wsV RX1 80 RX1 yX1_arePossible wsX1_arePossible) := goodIn_app (goodIn_of _ (by decide +kernel)) ggX1_mixTurns_X1_arePossible
set_option maxRecDepth 20000 in
theorem ggX1_mixTurns_X1_layTable : GoodIn wsX1_mixTurns wsX1_layTable := goodIn_ca (goodIn_r _ [48, 1, 49, 17, 50, 36, 51, 52, 53, 11, 54, 2, 6, 55, 56, 57, 58, 65, 66, 67, 68, 69, 70, 71, 72, 73, 74, 75, 76, 77] (by decide +kernel) (by decide +kernel)) (goodIn_sub (fun _ h => List.mem_cons_of_mem _ (List.mem_append_right _ h)) (by decide +kernel))
set_option maxRecDepth 20000 in
theorem gX1_mixTurns_X1_layTable : GoodIn wsX1_mixTurns (wsV RX1 140 RX1 yX1_layTable wsX1_layTable) := goodIn_app (goodIn_of _ (by decide +kernel)) ggX1_mixTurns_X1_layTable
set_option maxRecDepth 20000 in
theorem ggX1_mixTurns_X1_mix : GoodIn wsX1_mixTurns wsX1_mix := goodIn_r _ [62, 63, 64, 65, 66, 67, 68, 69, 70, 71, 72, 73, 74, 75, 76, 77] (by decide +kernel) (by decide +kernel)
set_option maxRecDepth 20000 in
theorem gX1_mixTurns_X1_mix : GoodIn wsX1_mixTurns (wsV RX1 152 RX1 yX1_mix wsX1_mix) := goodIn_app (goodIn_of _ (by decide +kernel)) ggX1_mixTurns_X1_mix
theorem dX1_mixTurns_0 : decode cX1_mixTurns 0 = .ok (.aload_n 0, 1) := by decide +kernel
theorem dX1_mixTurns_1 : decode cX1_mixTurns 1 = .ok (.invokevirtual 127, 3) := by decide +kernel
theorem dX1_mixTurns_4 : decode cX1_mixTurns 4 = .ok (.aload_n 0, 1) := by decide +kernel
theorem dX1_mixTurns_5 : decode cX1_mixTurns 5 = .ok (.invokevirtual 80, 3) := by decide +kernel
theorem dX1_mixTurns_8 : decode cX1_mixTurns 8 = .ok (.istore_n 1, 1) := by decide +kernel
theorem dX1_mixTurns_9 : decode cX1_mixTurns 9 = .ok (.iload_n 1, 1) := by decide +kernel
theorem dX1_mixTurns_10 : decode cX1_mixTurns 10 = .ok (.ifCond .eq 7, 3) := by decide +kernel
theorem dX1_mixTurns_13 : decode cX1_mixTurns 13 = .ok (.aload_n 0, 1) := by decide +kernel
theorem dX1_mixTurns_14 : decode cX1_mixTurns 14 = .ok (.invokevirtual 140, 3) := by decide +kernel
theorem dX1_mixTurns_17 : decode cX1_mixTurns 17 = .ok (.iconst 0, 1) := by decide +kernel
theorem dX1_mixTurns_18 : decode cX1_mixTurns 18 = .ok (.istore_n 2, 1) := by decide +kernel
theorem dX1_mixTurns_19 : decode cX1_mixTurns 19 = .ok (.iload_n 2, 1) := by decide +kernel
theorem dX1_mixTurns_20 : decode cX1_mixTurns 20 = .ok (.aload_n 0, 1) := by decide +kernel
theorem dX1_mixTurns_21 : decode cX1_mixTurns 21 = .ok (.getfield 7, 3) := by decide +kernel
theorem dX1_mixTurns_24 : decode cX1_mixTurns 24 = .ok (.if_icmp .ge 103, 3) := by decide +kernel
theorem dX1_mixTurns_27 : decode cX1_mixTurns 27 = .ok (.iconst 0, 1) := by decide +kernel
theorem dX1_mixTurns_28 : decode cX1_mixTurns 28 = .ok (.istore_n 3, 1) := by decide +kernel
theorem dX1_mixTurns_29 : decode cX1_mixTurns 29 = .ok (.iload_n 3, 1) := by decide +kernel
theorem dX1_mixTurns_30 : decode cX1_mixTurns 30 = .ok (.aload_n 0, 1) := by decide +kernel
theorem dX1_mixTurns_31 : decode cX1_mixTurns 31 = .ok (.getfield 7, 3) := by decide +kernel
theorem dX1_mixTurns_34 : decode cX1_mixTurns 34 = .ok (.if_icmp .ge 87, 3) := by decide +kernel
theorem dX1_mixTurns_37 : decode cX1_mixTurns 37 = .ok (.aload_n 0, 1) := by decide +kernel
theorem dX1_mixTurns_38 : decode cX1_mixTurns 38 = .ok (.aload_n 0, 1) := by decide +kernel
theorem dX1_mixTurns_39 : decode cX1_mixTurns 39 = .ok (.getfield 20, 3) := by decide +kernel
theorem dX1_mixTurns_42 : decode cX1_mixTurns 42 = .ok (.bipush 6, 2) := by decide +kernel
theorem dX1_mixTurns_44 : decode cX1_mixTurns 44 = .ok (.iload_n 2, 1) := by decide +kernel
theorem dX1_mixTurns_45 : decode cX1_mixTurns 45 = .ok (.imul, 1) := by decide +kernel
theorem dX1_mixTurns_46 : decode cX1_mixTurns 46 = .ok (.iload_n 3, 1) := by decide +kernel
theorem dX1_mixTurns_47 : decode cX1_mixTurns 47 = .ok (.iadd, 1) := by decide +kernel
theorem dX1_mixTurns_48 : decode cX1_mixTurns 48 = .ok (.iaload, 1) := by decide +kernel
theorem dX1_mixTurns_49 : decode cX1_mixTurns 49 = .ok (.i2l, 1) := by decide +kernel
theorem dX1_mixTurns_50 : decode cX1_mixTurns 50 = .ok (.invokevirtual 152, 3) := by decide +kernel
theorem dX1_mixTurns_53 : decode cX1_mixTurns 53 = .ok (.aload_n 0, 1) := by decide +kernel
theorem dX1_mixTurns_54 : decode cX1_mixTurns 54 = .ok (.aload_n 0, 1) := by decide +kernel
theorem dX1_mixTurns_55 : decode cX1_mixTurns 55 = .ok (.getfield 23, 3) := by decide +kernel
theorem dX1_mixTurns_58 : decode cX1_mixTurns 58 = .ok (.bipush 6, 2) := by decide +kernel
theorem dX1_mixTurns_60 : decode cX1_mixTurns 60 = .ok (.iload_n 2, 1) := by decide +kernel
theorem dX1_mixTurns_61 : decode cX1_mixTurns 61 = .ok (.imul, 1) := by decide +kernel
theorem dX1_mixTurns_62 : decode cX1_mixTurns 62 = .ok (.iload_n 3, 1) := by decide +kernel
theorem dX1_mixTurns_63 : decode cX1_mixTurns 63 = .ok (.iadd, 1) := by decide +kernel
theorem dX1_mixTurns_64 : decode cX1_mixTurns 64 = .ok (.daload, 1) := by decide +kernel
theorem dX1_mixTurns_65 : decode cX1_mixTurns 65 = .ok (.ldc2_w 110, 3) := by decide +kernel
theorem dX1_mixTurns_68 : decode cX1_mixTurns 68 = .ok (.dmul, 1) := by decide +kernel
theorem dX1_mixTurns_69 : decode cX1_mixTurns 69 = .ok (.d2l, 1) := by decide +kernel
theorem dX1_mixTurns_70 : decode cX1_mixTurns 70 = .ok (.invokevirtual 152, 3) := by decide +kernel
theorem dX1_mixTurns_73 : decode cX1_mixTurns 73 = .ok (.aload_n 0, 1) := by decide +kernel
theorem dX1_mixTurns_74 : decode cX1_mixTurns 74 = .ok (.aload_n 0, 1) := by decide +kernel
theorem dX1_mixTurns_75 : decode cX1_mixTurns 75 = .ok (.getfield 27, 3) := by decide +kernel
theorem dX1_mixTurns_78 : decode cX1_mixTurns 78 = .ok (.bipush 6, 2) := by decide +kernel
theorem dX1_mixTurns_80 : decode cX1_mixTurns 80 = .ok (.iload_n 2, 1) := by decide +kernel
theorem dX1_mixTurns_81 : decode cX1_mixTurns 81 = .ok (.imul, 1) := by decide +kernel
theorem dX1_mixTurns_82 : decode cX1_mixTurns 82 = .ok (.iload_n 3, 1) := by decide +kernel
theorem dX1_mixTurns_83 : decode cX1_mixTurns 83 = .ok (.iadd, 1) := by decide +kernel
theorem dX1_mixTurns_84 : decode cX1_mixTurns 84 = .ok (.iaload, 1) := by decide +kernel
theorem dX1_mixTurns_85 : decode cX1_mixTurns 85 = .ok (.i2l, 1) := by decide +kernel
theorem dX1_mixTurns_86 : decode cX1_mixTurns 86 = .ok (.invokevirtual 152, 3) := by decide +kernel
theorem dX1_mixTurns_89 : decode cX1_mixTurns 89 = .ok (.aload_n 0, 1) := by decide +kernel
theorem dX1_mixTurns_90 : decode cX1_mixTurns 90 = .ok (.iload_n 1, 1) := by decide +kernel
theorem dX1_mixTurns_91 : decode cX1_mixTurns 91 = .ok (.ifCond .eq 18, 3) := by decide +kernel
theorem dX1_mixTurns_94 : decode cX1_mixTurns 94 = .ok (.aload_n 0, 1) := by decide +kernel
theorem dX1_mixTurns_95 : decode cX1_mixTurns 95 = .ok (.getfield 33, 3) := by decide +kernel
theorem dX1_mixTurns_98 : decode cX1_mixTurns 98 = .ok (.bipush 6, 2) := by decide +kernel
theorem dX1_mixTurns_100 : decode cX1_mixTurns 100 = .ok (.iload_n 2, 1) := by decide +kernel
theorem dX1_mixTurns_101 : decode cX1_mixTurns 101 = .ok (.imul, 1) := by decide +kernel
theorem dX1_mixTurns_102 : decode cX1_mixTurns 102 = .ok (.iload_n 3, 1) := by decide +kernel
theorem dX1_mixTurns_103 : decode cX1_mixTurns 103 = .ok (.iadd, 1) := by decide +kernel
theorem dX1_mixTurns_104 : decode cX1_mixTurns 104 = .ok (.iaload, 1) := by decide +kernel
theorem dX1_mixTurns_105 : decode cX1_mixTurns 105 = .ok (.i2l, 1) := by decide +kernel
theorem dX1_mixTurns_106 : decode cX1_mixTurns 106 = .ok (.goto 6, 3) := by decide +kernel
theorem dX1_mixTurns_109 : decode cX1_mixTurns 109 = .ok (.ldc2_w 156, 3) := by decide +kernel
theorem dX1_mixTurns_112 : decode cX1_mixTurns 112 = .ok (.invokevirtual 152, 3) := by decide +kernel
theorem dX1_mixTurns_115 : decode cX1_mixTurns 115 = .ok (.iinc 3 1, 3) := by decide +kernel
theorem dX1_mixTurns_118 : decode cX1_mixTurns 118 = .ok (.goto (-89), 3) := by decide +kernel
theorem dX1_mixTurns_121 : decode cX1_mixTurns 121 = .ok (.iinc 2 1, 3) := by decide +kernel
theorem dX1_mixTurns_124 : decode cX1_mixTurns 124 = .ok (.goto (-105), 3) := by decide +kernel
theorem dX1_mixTurns_127 : decode cX1_mixTurns 127 = .ok (.return_, 1) := by decide +kernel
set_option maxRecDepth 20000 in
theorem ggX1_digest_X1_mix : GoodIn wsX1_digest wsX1_mix := goodIn_r _ [13, 14, 3, 91, 92, 93, 94, 95, 96, 97, 98, 99, 100, 101, 102, 103] (by decide +kernel) (by decide +kernel)
set_option maxRecDepth 20000 in
theorem gX1_digest_X1_mix : GoodIn wsX1_digest (wsV RX1 152 RX1 yX1_mix wsX1_mix) := goodIn_app (goodIn_of _ (by decide +kernel)) ggX1_digest_X1_mix
set_option maxRecDepth 20000 in
theorem ggX1_digest_X1_mixTurns : GoodIn wsX1_digest wsX1_mixTurns := goodIn_ca (goodIn_r _ [18, 4, 19, 20, 8, 21, 22, 23, 24, 25, 26, 12, 27, 28, 29, 30, 31, 5, 32, 33, 34, 35, 36, 37, 38, 39, 40, 41, 42, 43, 44, 45, 46, 47, 48, 49, 6, 50, 51, 52, 53, 54, 55, 56, 57, 58, 59, 60, 61, 62, 63, 64, 65, 66, 67, 68, 69, 70, 71, 9, 10, 11, 13, 14, 3, 91, 92, 93, 94, 95, 96, 97, 98, 99, 100, 101, 102, 103] (by decide +kernel) (by decide +kernel)) (goodIn_sub (fun _ h => List.mem_cons_of_mem _ (List.mem_append_right _ h)) (by decide +kernel))
set_option maxRecDepth 20000 in
theorem gX1_digest_X1_mixTurns : GoodIn wsX1_digest (wsV RX1 160 RX1 yX1_mixTurns wsX1_mixTurns) := goodIn_app (goodIn_of _ (by decide +kernel)) ggX1_digest_X1_mixTurns
set_option maxRecDepth 20000 in
theorem ggX1_digest_X1_difference : GoodIn wsX1_digest wsX1_difference := goodIn_ca (goodIn_r _ [49, 4, 5, 6, 91, 92, 93, 94, 95, 96, 97, 98, 99, 100, 101, 102, 103] (by decide +kernel) (by decide +kernel)) (goodIn_sub (fun _ h => List.mem_cons_of_mem _ (List.mem_append_right _ h)) (by decide +kernel))
set_option maxRecDepth 20000 in
theorem gX1_digest_X1_difference : GoodIn wsX1_digest (wsV RX1 69 RX1 yX1_difference wsX1_difference) := goodIn_app (goodIn_of _ (by decide +kernel)) ggX1_digest_X1_difference
set_option maxRecDepth 20000 in
theorem ggX1_digest_X1_crowded : GoodIn wsX1_digest wsX1_crowded := goodIn_ca (goodIn_r _ [53, 4, 54, 55, 56, 12, 57, 19, 5, 6, 91, 92, 93, 94, 95, 96, 97, 98, 99, 100, 101, 102, 103] (by decide +kernel) (by decide +kernel)) (goodIn_sub (fun _ h => List.mem_cons_of_mem _ (List.mem_append_right _ h)) (by decide +kernel))
set_option maxRecDepth 20000 in
theorem gX1_digest_X1_crowded : GoodIn wsX1_digest (wsV RX1 77 RX1 yX1_crowded wsX1_crowded) := goodIn_app (goodIn_of _ (by decide +kernel)) ggX1_digest_X1_crowded
set_option maxRecDepth 20000 in
theorem ggX1_digest_X1_misfitNow : GoodIn wsX1_digest wsX1_misfitNow := goodIn_ca (goodIn_r _ [75, 4, 5, 6, 34, 35, 36, 12, 37, 20, 76, 77, 78, 79, 80, 81, 82, 91, 92, 93, 94, 95, 96, 97, 98, 99, 100, 101, 102, 103] (by decide +kernel) (by decide +kernel)) (goodIn_sub (fun _ h => List.mem_cons_of_mem _ (List.mem_append_right _ h)) (by decide +kernel))
set_option maxRecDepth 20000 in
theorem gX1_digest_X1_misfitNow : GoodIn wsX1_digest (wsV RX1 106 RX1 yX1_misfitNow wsX1_misfitNow) := goodIn_app (goodIn_of _ (by decide +kernel)) ggX1_digest_X1_misfitNow
set_option maxRecDepth 20000 in
theorem ggX1_digest_X1_busiest : GoodIn wsX1_digest wsX1_busiest := goodIn_ca (goodIn_r _ [86, 4, 20, 91, 92, 93, 94, 95, 96, 97, 98, 99, 100, 101, 102, 103] (by decide +kernel) (by decide +kernel)) (goodIn_sub (fun _ h => List.mem_cons_of_mem _ (List.mem_append_right _ h)) (by decide +kernel))
set_option maxRecDepth 20000 in
theorem gX1_digest_X1_busiest : GoodIn wsX1_digest (wsV RX1 116 RX1 yX1_busiest wsX1_busiest) := goodIn_app (goodIn_of _ (by decide +kernel)) ggX1_digest_X1_busiest
set_option maxRecDepth 20000 in
theorem ggX1_digest_X1_wholeMisfit : GoodIn wsX1_digest wsX1_wholeMisfit := goodIn_ca (goodIn_r _ [90, 4, 6, 21, 24, 25, 26, 12, 27, 28, 29, 30, 31, 20, 5, 32, 33, 34, 35, 36, 37, 38, 39, 40, 41, 19, 91, 92, 93, 94, 95, 96, 97, 98, 99, 100, 101, 102, 103] (by decide +kernel) (by decide +kernel)) (goodIn_sub (fun _ h => List.mem_cons_of_mem _ (List.mem_append_right _ h)) (by decide +kernel))
set_option maxRecDepth 20000 in
theorem gX1_digest_X1_wholeMisfit : GoodIn wsX1_digest (wsV RX1 130 RX1 yX1_wholeMisfit wsX1_wholeMisfit) := goodIn_app (goodIn_of _ (by decide +kernel)) ggX1_digest_X1_wholeMisfit
theorem dX1_digest_0 : decode cX1_digest 0 = .ok (.aload_n 0, 1) := by decide +kernel
theorem dX1_digest_1 : decode cX1_digest 1 = .ok (.iconst 0, 1) := by decide +kernel
theorem dX1_digest_2 : decode cX1_digest 2 = .ok (.putfield 45, 3) := by decide +kernel
theorem dX1_digest_5 : decode cX1_digest 5 = .ok (.aload_n 0, 1) := by decide +kernel
theorem dX1_digest_6 : decode cX1_digest 6 = .ok (.ldc2_w 158, 3) := by decide +kernel
theorem dX1_digest_9 : decode cX1_digest 9 = .ok (.putfield 148, 3) := by decide +kernel
theorem dX1_digest_12 : decode cX1_digest 12 = .ok (.aload_n 0, 1) := by decide +kernel
theorem dX1_digest_13 : decode cX1_digest 13 = .ok (.aload_n 0, 1) := by decide +kernel
theorem dX1_digest_14 : decode cX1_digest 14 = .ok (.getfield 7, 3) := by decide +kernel
theorem dX1_digest_17 : decode cX1_digest 17 = .ok (.i2l, 1) := by decide +kernel
theorem dX1_digest_18 : decode cX1_digest 18 = .ok (.invokevirtual 152, 3) := by decide +kernel
theorem dX1_digest_21 : decode cX1_digest 21 = .ok (.iconst 0, 1) := by decide +kernel
theorem dX1_digest_22 : decode cX1_digest 22 = .ok (.istore_n 1, 1) := by decide +kernel
theorem dX1_digest_23 : decode cX1_digest 23 = .ok (.iload_n 1, 1) := by decide +kernel
theorem dX1_digest_24 : decode cX1_digest 24 = .ok (.aload_n 0, 1) := by decide +kernel
theorem dX1_digest_25 : decode cX1_digest 25 = .ok (.getfield 7, 3) := by decide +kernel
theorem dX1_digest_28 : decode cX1_digest 28 = .ok (.if_icmp .ge 31, 3) := by decide +kernel
theorem dX1_digest_31 : decode cX1_digest 31 = .ok (.aload_n 0, 1) := by decide +kernel
theorem dX1_digest_32 : decode cX1_digest 32 = .ok (.aload_n 0, 1) := by decide +kernel
theorem dX1_digest_33 : decode cX1_digest 33 = .ok (.getfield 13, 3) := by decide +kernel
theorem dX1_digest_36 : decode cX1_digest 36 = .ok (.iload_n 1, 1) := by decide +kernel
theorem dX1_digest_37 : decode cX1_digest 37 = .ok (.iaload, 1) := by decide +kernel
theorem dX1_digest_38 : decode cX1_digest 38 = .ok (.i2l, 1) := by decide +kernel
theorem dX1_digest_39 : decode cX1_digest 39 = .ok (.invokevirtual 152, 3) := by decide +kernel
theorem dX1_digest_42 : decode cX1_digest 42 = .ok (.aload_n 0, 1) := by decide +kernel
theorem dX1_digest_43 : decode cX1_digest 43 = .ok (.aload_n 0, 1) := by decide +kernel
theorem dX1_digest_44 : decode cX1_digest 44 = .ok (.getfield 17, 3) := by decide +kernel
theorem dX1_digest_47 : decode cX1_digest 47 = .ok (.iload_n 1, 1) := by decide +kernel
theorem dX1_digest_48 : decode cX1_digest 48 = .ok (.iaload, 1) := by decide +kernel
theorem dX1_digest_49 : decode cX1_digest 49 = .ok (.i2l, 1) := by decide +kernel
theorem dX1_digest_50 : decode cX1_digest 50 = .ok (.invokevirtual 152, 3) := by decide +kernel
theorem dX1_digest_53 : decode cX1_digest 53 = .ok (.iinc 1 1, 3) := by decide +kernel
theorem dX1_digest_56 : decode cX1_digest 56 = .ok (.goto (-33), 3) := by decide +kernel
theorem dX1_digest_59 : decode cX1_digest 59 = .ok (.aload_n 0, 1) := by decide +kernel
theorem dX1_digest_60 : decode cX1_digest 60 = .ok (.invokevirtual 160, 3) := by decide +kernel
theorem dX1_digest_63 : decode cX1_digest 63 = .ok (.aload_n 0, 1) := by decide +kernel
theorem dX1_digest_64 : decode cX1_digest 64 = .ok (.aload_n 0, 1) := by decide +kernel
theorem dX1_digest_65 : decode cX1_digest 65 = .ok (.invokevirtual 69, 3) := by decide +kernel
theorem dX1_digest_68 : decode cX1_digest 68 = .ok (.i2l, 1) := by decide +kernel
theorem dX1_digest_69 : decode cX1_digest 69 = .ok (.invokevirtual 152, 3) := by decide +kernel
theorem dX1_digest_72 : decode cX1_digest 72 = .ok (.aload_n 0, 1) := by decide +kernel
theorem dX1_digest_73 : decode cX1_digest 73 = .ok (.aload_n 0, 1) := by decide +kernel
theorem dX1_digest_74 : decode cX1_digest 74 = .ok (.invokevirtual 77, 3) := by decide +kernel
theorem dX1_digest_77 : decode cX1_digest 77 = .ok (.i2l, 1) := by decide +kernel
theorem dX1_digest_78 : decode cX1_digest 78 = .ok (.invokevirtual 152, 3) := by decide +kernel
theorem dX1_digest_81 : decode cX1_digest 81 = .ok (.aload_n 0, 1) := by decide +kernel
theorem dX1_digest_82 : decode cX1_digest 82 = .ok (.aload_n 0, 1) := by decide +kernel
theorem dX1_digest_83 : decode cX1_digest 83 = .ok (.getfield 52, 3) := by decide +kernel
theorem dX1_digest_86 : decode cX1_digest 86 = .ok (.i2l, 1) := by decide +kernel
theorem dX1_digest_87 : decode cX1_digest 87 = .ok (.invokevirtual 152, 3) := by decide +kernel
theorem dX1_digest_90 : decode cX1_digest 90 = .ok (.aload_n 0, 1) := by decide +kernel
theorem dX1_digest_91 : decode cX1_digest 91 = .ok (.aload_n 0, 1) := by decide +kernel
theorem dX1_digest_92 : decode cX1_digest 92 = .ok (.invokevirtual 106, 3) := by decide +kernel
theorem dX1_digest_95 : decode cX1_digest 95 = .ok (.ldc2_w 110, 3) := by decide +kernel
theorem dX1_digest_98 : decode cX1_digest 98 = .ok (.dmul, 1) := by decide +kernel
theorem dX1_digest_99 : decode cX1_digest 99 = .ok (.d2l, 1) := by decide +kernel
theorem dX1_digest_100 : decode cX1_digest 100 = .ok (.invokevirtual 152, 3) := by decide +kernel
theorem dX1_digest_103 : decode cX1_digest 103 = .ok (.aload_n 0, 1) := by decide +kernel
theorem dX1_digest_104 : decode cX1_digest 104 = .ok (.aload_n 0, 1) := by decide +kernel
theorem dX1_digest_105 : decode cX1_digest 105 = .ok (.invokevirtual 116, 3) := by decide +kernel
theorem dX1_digest_108 : decode cX1_digest 108 = .ok (.i2l, 1) := by decide +kernel
theorem dX1_digest_109 : decode cX1_digest 109 = .ok (.invokevirtual 152, 3) := by decide +kernel
theorem dX1_digest_112 : decode cX1_digest 112 = .ok (.aload_n 0, 1) := by decide +kernel
theorem dX1_digest_113 : decode cX1_digest 113 = .ok (.aload_n 0, 1) := by decide +kernel
theorem dX1_digest_114 : decode cX1_digest 114 = .ok (.invokevirtual 130, 3) := by decide +kernel
theorem dX1_digest_117 : decode cX1_digest 117 = .ok (.i2l, 1) := by decide +kernel
theorem dX1_digest_118 : decode cX1_digest 118 = .ok (.invokevirtual 152, 3) := by decide +kernel
theorem dX1_digest_121 : decode cX1_digest 121 = .ok (.aload_n 0, 1) := by decide +kernel
theorem dX1_digest_122 : decode cX1_digest 122 = .ok (.getfield 148, 3) := by decide +kernel
theorem dX1_digest_125 : decode cX1_digest 125 = .ok (.lreturn, 1) := by decide +kernel
theorem dJx00060_init_a7421_0 : decode cJx00060_init_a7421 0 = .ok (.aload_n 0, 1) := by decide +kernel
theorem dJx00060_init_a7421_1 : decode cJx00060_init_a7421 1 = .ok (.aload_n 1, 1) := by decide +kernel
theorem dJx00060_init_a7421_2 : decode cJx00060_init_a7421 2 = .ok (.invokespecial 7, 3) := by decide +kernel
theorem dJx00060_init_a7421_5 : decode cJx00060_init_a7421 5 = .ok (.return_, 1) := by decide +kernel
theorem dJ9_abs_0f7a4_0 : decode cJ9_abs_0f7a4 0 = .ok (.iload_n 0, 1) := by decide +kernel
theorem dJ9_abs_0f7a4_1 : decode cJ9_abs_0f7a4 1 = .ok (.ifCond .ge 8, 3) := by decide +kernel
theorem dJ9_abs_0f7a4_4 : decode cJ9_abs_0f7a4 4 = .ok (.iload_n 0, 1) := by decide +kernel
theorem dJ9_abs_0f7a4_5 : decode cJ9_abs_0f7a4 5 = .ok (.ineg, 1) := by decide +kernel
theorem dJ9_abs_0f7a4_6 : decode cJ9_abs_0f7a4 6 = .ok (.goto 4, 3) := by decide +kernel
theorem dJ9_abs_0f7a4_9 : decode cJ9_abs_0f7a4 9 = .ok (.iload_n 0, 1) := by decide +kernel
theorem dJ9_abs_0f7a4_10 : decode cJ9_abs_0f7a4 10 = .ok (.ireturn, 1) := by decide +kernel
theorem dJ9_min_7cf53_0 : decode cJ9_min_7cf53 0 = .ok (.iload_n 0, 1) := by decide +kernel
theorem dJ9_min_7cf53_1 : decode cJ9_min_7cf53 1 = .ok (.iload_n 1, 1) := by decide +kernel
theorem dJ9_min_7cf53_2 : decode cJ9_min_7cf53 2 = .ok (.if_icmp .gt 7, 3) := by decide +kernel
theorem dJ9_min_7cf53_5 : decode cJ9_min_7cf53 5 = .ok (.iload_n 0, 1) := by decide +kernel
theorem dJ9_min_7cf53_6 : decode cJ9_min_7cf53 6 = .ok (.goto 4, 3) := by decide +kernel
theorem dJ9_min_7cf53_9 : decode cJ9_min_7cf53 9 = .ok (.iload_n 1, 1) := by decide +kernel
theorem dJ9_min_7cf53_10 : decode cJ9_min_7cf53 10 = .ok (.ireturn, 1) := by decide +kernel
