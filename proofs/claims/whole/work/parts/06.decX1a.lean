set_option maxRecDepth 20000 in
theorem ggX1_init_X1_begin : GoodIn wsX1_init wsX1_begin := goodIn_ca (goodIn_r _ [20, 8, 6, 7, 21, 22, 23, 19, 24, 10, 25, 26, 27, 28, 29, 30, 31, 32, 33, 34, 35, 36, 37, 38] (by decide +kernel) (by decide +kernel)) (goodIn_sub (fun _ h => List.mem_cons_of_mem _ (List.mem_append_right _ h)) (by decide +kernel))
set_option maxRecDepth 20000 in
theorem gX1_init_X1_begin : GoodIn wsX1_init (wsV RX1 42 RX1 yX1_begin wsX1_begin) := goodIn_app (goodIn_of _ (by decide +kernel)) ggX1_init_X1_begin
theorem dX1_init_0 : decode cX1_init 0 = .ok (.aload_n 0, 1) := by decide +kernel
theorem dX1_init_1 : decode cX1_init 1 = .ok (.invokespecial 1, 3) := by decide +kernel
theorem dX1_init_4 : decode cX1_init 4 = .ok (.aload_n 0, 1) := by decide +kernel
theorem dX1_init_5 : decode cX1_init 5 = .ok (.iconst 4, 1) := by decide +kernel
theorem dX1_init_6 : decode cX1_init 6 = .ok (.putfield 7, 3) := by decide +kernel
theorem dX1_init_9 : decode cX1_init 9 = .ok (.aload_n 0, 1) := by decide +kernel
theorem dX1_init_10 : decode cX1_init 10 = .ok (.bipush 6, 2) := by decide +kernel
theorem dX1_init_12 : decode cX1_init 12 = .ok (.newarray .int, 2) := by decide +kernel
theorem dX1_init_14 : decode cX1_init 14 = .ok (.putfield 13, 3) := by decide +kernel
theorem dX1_init_17 : decode cX1_init 17 = .ok (.aload_n 0, 1) := by decide +kernel
theorem dX1_init_18 : decode cX1_init 18 = .ok (.bipush 6, 2) := by decide +kernel
theorem dX1_init_20 : decode cX1_init 20 = .ok (.newarray .int, 2) := by decide +kernel
theorem dX1_init_22 : decode cX1_init 22 = .ok (.putfield 17, 3) := by decide +kernel
theorem dX1_init_25 : decode cX1_init 25 = .ok (.aload_n 0, 1) := by decide +kernel
theorem dX1_init_26 : decode cX1_init 26 = .ok (.bipush 36, 2) := by decide +kernel
theorem dX1_init_28 : decode cX1_init 28 = .ok (.newarray .int, 2) := by decide +kernel
theorem dX1_init_30 : decode cX1_init 30 = .ok (.putfield 20, 3) := by decide +kernel
theorem dX1_init_33 : decode cX1_init 33 = .ok (.aload_n 0, 1) := by decide +kernel
theorem dX1_init_34 : decode cX1_init 34 = .ok (.bipush 36, 2) := by decide +kernel
theorem dX1_init_36 : decode cX1_init 36 = .ok (.newarray .double, 2) := by decide +kernel
theorem dX1_init_38 : decode cX1_init 38 = .ok (.putfield 23, 3) := by decide +kernel
theorem dX1_init_41 : decode cX1_init 41 = .ok (.aload_n 0, 1) := by decide +kernel
theorem dX1_init_42 : decode cX1_init 42 = .ok (.bipush 36, 2) := by decide +kernel
theorem dX1_init_44 : decode cX1_init 44 = .ok (.newarray .int, 2) := by decide +kernel
theorem dX1_init_46 : decode cX1_init 46 = .ok (.putfield 27, 3) := by decide +kernel
theorem dX1_init_49 : decode cX1_init 49 = .ok (.aload_n 0, 1) := by decide +kernel
theorem dX1_init_50 : decode cX1_init 50 = .ok (.bipush 6, 2) := by decide +kernel
theorem dX1_init_52 : decode cX1_init 52 = .ok (.newarray .double, 2) := by decide +kernel
theorem dX1_init_54 : decode cX1_init 54 = .ok (.putfield 30, 3) := by decide +kernel
theorem dX1_init_57 : decode cX1_init 57 = .ok (.aload_n 0, 1) := by decide +kernel
theorem dX1_init_58 : decode cX1_init 58 = .ok (.bipush 36, 2) := by decide +kernel
theorem dX1_init_60 : decode cX1_init 60 = .ok (.newarray .int, 2) := by decide +kernel
theorem dX1_init_62 : decode cX1_init 62 = .ok (.putfield 33, 3) := by decide +kernel
theorem dX1_init_65 : decode cX1_init 65 = .ok (.aload_n 0, 1) := by decide +kernel
theorem dX1_init_66 : decode cX1_init 66 = .ok (.bipush 6, 2) := by decide +kernel
theorem dX1_init_68 : decode cX1_init 68 = .ok (.newarray .int, 2) := by decide +kernel
theorem dX1_init_70 : decode cX1_init 70 = .ok (.putfield 36, 3) := by decide +kernel
theorem dX1_init_73 : decode cX1_init 73 = .ok (.aload_n 0, 1) := by decide +kernel
theorem dX1_init_74 : decode cX1_init 74 = .ok (.bipush 6, 2) := by decide +kernel
theorem dX1_init_76 : decode cX1_init 76 = .ok (.newarray .int, 2) := by decide +kernel
theorem dX1_init_78 : decode cX1_init 78 = .ok (.putfield 39, 3) := by decide +kernel
theorem dX1_init_81 : decode cX1_init 81 = .ok (.aload_n 0, 1) := by decide +kernel
theorem dX1_init_82 : decode cX1_init 82 = .ok (.invokevirtual 42, 3) := by decide +kernel
theorem dX1_init_85 : decode cX1_init 85 = .ok (.return_, 1) := by decide +kernel
theorem dX1_thrown_0 : decode cX1_thrown 0 = .ok (.aload_n 0, 1) := by decide +kernel
theorem dX1_thrown_1 : decode cX1_thrown 1 = .ok (.getfield 45, 3) := by decide +kernel
theorem dX1_thrown_4 : decode cX1_thrown 4 = .ok (.ireturn, 1) := by decide +kernel
theorem dX1_within_0 : decode cX1_within 0 = .ok (.iload_n 0, 1) := by decide +kernel
theorem dX1_within_1 : decode cX1_within 1 = .ok (.iload_n 1, 1) := by decide +kernel
theorem dX1_within_2 : decode cX1_within 2 = .ok (.if_icmp .lt 12, 3) := by decide +kernel
theorem dX1_within_5 : decode cX1_within 5 = .ok (.iload_n 0, 1) := by decide +kernel
theorem dX1_within_6 : decode cX1_within 6 = .ok (.iload_n 2, 1) := by decide +kernel
theorem dX1_within_7 : decode cX1_within 7 = .ok (.if_icmp .gt 7, 3) := by decide +kernel
theorem dX1_within_10 : decode cX1_within 10 = .ok (.iconst 1, 1) := by decide +kernel
theorem dX1_within_11 : decode cX1_within 11 = .ok (.goto 4, 3) := by decide +kernel
theorem dX1_within_14 : decode cX1_within 14 = .ok (.iconst 0, 1) := by decide +kernel
theorem dX1_within_15 : decode cX1_within 15 = .ok (.ireturn, 1) := by decide +kernel
set_option maxRecDepth 20000 in
theorem ggX1_isArm_X1_within : GoodIn wsX1_isArm wsX1_within := goodIn_r _ [5] (by decide +kernel) (by decide +kernel)
set_option maxRecDepth 20000 in
theorem gX1_isArm_X1_within : GoodIn wsX1_isArm (va_wsS RX1 48 yX1_within wsX1_within) := goodIn_app (goodIn_of _ (by decide +kernel)) ggX1_isArm_X1_within
theorem dX1_isArm_0 : decode cX1_isArm 0 = .ok (.iload_n 1, 1) := by decide +kernel
theorem dX1_isArm_1 : decode cX1_isArm 1 = .ok (.iconst 0, 1) := by decide +kernel
theorem dX1_isArm_2 : decode cX1_isArm 2 = .ok (.aload_n 0, 1) := by decide +kernel
theorem dX1_isArm_3 : decode cX1_isArm 3 = .ok (.getfield 7, 3) := by decide +kernel
theorem dX1_isArm_6 : decode cX1_isArm 6 = .ok (.iconst 1, 1) := by decide +kernel
theorem dX1_isArm_7 : decode cX1_isArm 7 = .ok (.isub, 1) := by decide +kernel
theorem dX1_isArm_8 : decode cX1_isArm 8 = .ok (.invokestatic 48, 3) := by decide +kernel
theorem dX1_isArm_11 : decode cX1_isArm 11 = .ok (.ireturn, 1) := by decide +kernel
theorem dX1_layWeights_0 : decode cX1_layWeights 0 = .ok (.iconst 0, 1) := by decide +kernel
theorem dX1_layWeights_1 : decode cX1_layWeights 1 = .ok (.istore_n 1, 1) := by decide +kernel
theorem dX1_layWeights_2 : decode cX1_layWeights 2 = .ok (.iload_n 1, 1) := by decide +kernel
theorem dX1_layWeights_3 : decode cX1_layWeights 3 = .ok (.bipush 36, 2) := by decide +kernel
theorem dX1_layWeights_5 : decode cX1_layWeights 5 = .ok (.if_icmp .ge 22, 3) := by decide +kernel
theorem dX1_layWeights_8 : decode cX1_layWeights 8 = .ok (.aload_n 0, 1) := by decide +kernel
theorem dX1_layWeights_9 : decode cX1_layWeights 9 = .ok (.getfield 23, 3) := by decide +kernel
theorem dX1_layWeights_12 : decode cX1_layWeights 12 = .ok (.iload_n 1, 1) := by decide +kernel
theorem dX1_layWeights_13 : decode cX1_layWeights 13 = .ok (.aload_n 0, 1) := by decide +kernel
theorem dX1_layWeights_14 : decode cX1_layWeights 14 = .ok (.getfield 20, 3) := by decide +kernel
theorem dX1_layWeights_17 : decode cX1_layWeights 17 = .ok (.iload_n 1, 1) := by decide +kernel
theorem dX1_layWeights_18 : decode cX1_layWeights 18 = .ok (.iaload, 1) := by decide +kernel
theorem dX1_layWeights_19 : decode cX1_layWeights 19 = .ok (.i2d, 1) := by decide +kernel
theorem dX1_layWeights_20 : decode cX1_layWeights 20 = .ok (.dastore, 1) := by decide +kernel
theorem dX1_layWeights_21 : decode cX1_layWeights 21 = .ok (.iinc 1 1, 3) := by decide +kernel
theorem dX1_layWeights_24 : decode cX1_layWeights 24 = .ok (.goto (-22), 3) := by decide +kernel
theorem dX1_layWeights_27 : decode cX1_layWeights 27 = .ok (.aload_n 0, 1) := by decide +kernel
theorem dX1_layWeights_28 : decode cX1_layWeights 28 = .ok (.iconst 0, 1) := by decide +kernel
theorem dX1_layWeights_29 : decode cX1_layWeights 29 = .ok (.putfield 52, 3) := by decide +kernel
theorem dX1_layWeights_32 : decode cX1_layWeights 32 = .ok (.return_, 1) := by decide +kernel
set_option maxRecDepth 20000 in
theorem ggX1_begin_X1_layWeights : GoodIn wsX1_begin wsX1_layWeights := goodIn_ca (goodIn_r _ [8, 9, 1, 10, 11, 12, 13, 14, 15, 16, 17, 18, 19, 20, 21, 22, 23] (by decide +kernel) (by decide +kernel)) (goodIn_sub (fun _ h => List.mem_cons_of_mem _ (List.mem_append_right _ h)) (by decide +kernel))
set_option maxRecDepth 20000 in
theorem gX1_begin_X1_layWeights : GoodIn wsX1_begin (wsV RX1 55 RX1 yX1_layWeights wsX1_layWeights) := goodIn_app (goodIn_of _ (by decide +kernel)) ggX1_begin_X1_layWeights
theorem dX1_begin_0 : decode cX1_begin 0 = .ok (.iconst 0, 1) := by decide +kernel
theorem dX1_begin_1 : decode cX1_begin 1 = .ok (.istore_n 1, 1) := by decide +kernel
theorem dX1_begin_2 : decode cX1_begin 2 = .ok (.iload_n 1, 1) := by decide +kernel
theorem dX1_begin_3 : decode cX1_begin 3 = .ok (.bipush 36, 2) := by decide +kernel
theorem dX1_begin_5 : decode cX1_begin 5 = .ok (.if_icmp .ge 31, 3) := by decide +kernel
theorem dX1_begin_8 : decode cX1_begin 8 = .ok (.aload_n 0, 1) := by decide +kernel
theorem dX1_begin_9 : decode cX1_begin 9 = .ok (.getfield 20, 3) := by decide +kernel
theorem dX1_begin_12 : decode cX1_begin 12 = .ok (.iload_n 1, 1) := by decide +kernel
theorem dX1_begin_13 : decode cX1_begin 13 = .ok (.iload_n 1, 1) := by decide +kernel
theorem dX1_begin_14 : decode cX1_begin 14 = .ok (.bipush 6, 2) := by decide +kernel
theorem dX1_begin_16 : decode cX1_begin 16 = .ok (.idiv, 1) := by decide +kernel
theorem dX1_begin_17 : decode cX1_begin 17 = .ok (.iload_n 1, 1) := by decide +kernel
theorem dX1_begin_18 : decode cX1_begin 18 = .ok (.bipush 6, 2) := by decide +kernel
theorem dX1_begin_20 : decode cX1_begin 20 = .ok (.irem, 1) := by decide +kernel
theorem dX1_begin_21 : decode cX1_begin 21 = .ok (.if_icmp .ne 7, 3) := by decide +kernel
theorem dX1_begin_24 : decode cX1_begin 24 = .ok (.iconst 0, 1) := by decide +kernel
theorem dX1_begin_25 : decode cX1_begin 25 = .ok (.goto 4, 3) := by decide +kernel
theorem dX1_begin_28 : decode cX1_begin 28 = .ok (.iconst 1, 1) := by decide +kernel
theorem dX1_begin_29 : decode cX1_begin 29 = .ok (.iastore, 1) := by decide +kernel
theorem dX1_begin_30 : decode cX1_begin 30 = .ok (.iinc 1 1, 3) := by decide +kernel
theorem dX1_begin_33 : decode cX1_begin 33 = .ok (.goto (-31), 3) := by decide +kernel
theorem dX1_begin_36 : decode cX1_begin 36 = .ok (.iconst 0, 1) := by decide +kernel
theorem dX1_begin_37 : decode cX1_begin 37 = .ok (.istore_n 1, 1) := by decide +kernel
theorem dX1_begin_38 : decode cX1_begin 38 = .ok (.iload_n 1, 1) := by decide +kernel
theorem dX1_begin_39 : decode cX1_begin 39 = .ok (.bipush 6, 2) := by decide +kernel
theorem dX1_begin_41 : decode cX1_begin 41 = .ok (.if_icmp .ge 23, 3) := by decide +kernel
theorem dX1_begin_44 : decode cX1_begin 44 = .ok (.aload_n 0, 1) := by decide +kernel
theorem dX1_begin_45 : decode cX1_begin 45 = .ok (.getfield 13, 3) := by decide +kernel
theorem dX1_begin_48 : decode cX1_begin 48 = .ok (.iload_n 1, 1) := by decide +kernel
theorem dX1_begin_49 : decode cX1_begin 49 = .ok (.iconst 0, 1) := by decide +kernel
theorem dX1_begin_50 : decode cX1_begin 50 = .ok (.iastore, 1) := by decide +kernel
theorem dX1_begin_51 : decode cX1_begin 51 = .ok (.aload_n 0, 1) := by decide +kernel
theorem dX1_begin_52 : decode cX1_begin 52 = .ok (.getfield 17, 3) := by decide +kernel
theorem dX1_begin_55 : decode cX1_begin 55 = .ok (.iload_n 1, 1) := by decide +kernel
theorem dX1_begin_56 : decode cX1_begin 56 = .ok (.iconst 0, 1) := by decide +kernel
theorem dX1_begin_57 : decode cX1_begin 57 = .ok (.iastore, 1) := by decide +kernel
theorem dX1_begin_58 : decode cX1_begin 58 = .ok (.iinc 1 1, 3) := by decide +kernel
theorem dX1_begin_61 : decode cX1_begin 61 = .ok (.goto (-23), 3) := by decide +kernel
theorem dX1_begin_64 : decode cX1_begin 64 = .ok (.aload_n 0, 1) := by decide +kernel
theorem dX1_begin_65 : decode cX1_begin 65 = .ok (.invokevirtual 55, 3) := by decide +kernel
theorem dX1_begin_68 : decode cX1_begin 68 = .ok (.return_, 1) := by decide +kernel
set_option maxRecDepth 20000 in
theorem ggX1_setArms_X1_within : GoodIn wsX1_setArms wsX1_within := goodIn_r _ [6] (by decide +kernel) (by decide +kernel)
set_option maxRecDepth 20000 in
theorem gX1_setArms_X1_within : GoodIn wsX1_setArms (va_wsS RX1 48 yX1_within wsX1_within) := goodIn_app (goodIn_of _ (by decide +kernel)) ggX1_setArms_X1_within
set_option maxRecDepth 20000 in
theorem ggX1_setArms_X1_begin : GoodIn wsX1_setArms wsX1_begin := goodIn_ca (goodIn_r _ [10, 11, 12, 13, 14, 15, 16, 5, 17, 18, 19, 20, 21, 22, 23, 24, 25, 26, 27, 28, 29, 30, 31, 32] (by decide +kernel) (by decide +kernel)) (goodIn_sub (fun _ h => List.mem_cons_of_mem _ (List.mem_append_right _ h)) (by decide +kernel))
set_option maxRecDepth 20000 in
theorem gX1_setArms_X1_begin : GoodIn wsX1_setArms (wsV RX1 42 RX1 yX1_begin wsX1_begin) := goodIn_app (goodIn_of _ (by decide +kernel)) ggX1_setArms_X1_begin
theorem dX1_setArms_0 : decode cX1_setArms 0 = .ok (.aload_n 0, 1) := by decide +kernel
theorem dX1_setArms_1 : decode cX1_setArms 1 = .ok (.iload_n 1, 1) := by decide +kernel
theorem dX1_setArms_2 : decode cX1_setArms 2 = .ok (.iconst 3, 1) := by decide +kernel
theorem dX1_setArms_3 : decode cX1_setArms 3 = .ok (.bipush 6, 2) := by decide +kernel
theorem dX1_setArms_5 : decode cX1_setArms 5 = .ok (.invokestatic 48, 3) := by decide +kernel
theorem dX1_setArms_8 : decode cX1_setArms 8 = .ok (.ifCond .eq 7, 3) := by decide +kernel
theorem dX1_setArms_11 : decode cX1_setArms 11 = .ok (.iconst 0, 1) := by decide +kernel
theorem dX1_setArms_12 : decode cX1_setArms 12 = .ok (.goto 4, 3) := by decide +kernel
theorem dX1_setArms_15 : decode cX1_setArms 15 = .ok (.iconst 1, 1) := by decide +kernel
theorem dX1_setArms_16 : decode cX1_setArms 16 = .ok (.putfield 45, 3) := by decide +kernel
theorem dX1_setArms_19 : decode cX1_setArms 19 = .ok (.aload_n 0, 1) := by decide +kernel
theorem dX1_setArms_20 : decode cX1_setArms 20 = .ok (.getfield 45, 3) := by decide +kernel
theorem dX1_setArms_23 : decode cX1_setArms 23 = .ok (.ifCond .le 5, 3) := by decide +kernel
theorem dX1_setArms_26 : decode cX1_setArms 26 = .ok (.iconst 0, 1) := by decide +kernel
theorem dX1_setArms_27 : decode cX1_setArms 27 = .ok (.ireturn, 1) := by decide +kernel
theorem dX1_setArms_28 : decode cX1_setArms 28 = .ok (.aload_n 0, 1) := by decide +kernel
theorem dX1_setArms_29 : decode cX1_setArms 29 = .ok (.getfield 7, 3) := by decide +kernel
theorem dX1_setArms_32 : decode cX1_setArms 32 = .ok (.istore_n 2, 1) := by decide +kernel
theorem dX1_setArms_33 : decode cX1_setArms 33 = .ok (.aload_n 0, 1) := by decide +kernel
theorem dX1_setArms_34 : decode cX1_setArms 34 = .ok (.iload_n 1, 1) := by decide +kernel
theorem dX1_setArms_35 : decode cX1_setArms 35 = .ok (.putfield 7, 3) := by decide +kernel
theorem dX1_setArms_38 : decode cX1_setArms 38 = .ok (.aload_n 0, 1) := by decide +kernel
theorem dX1_setArms_39 : decode cX1_setArms 39 = .ok (.invokevirtual 42, 3) := by decide +kernel
theorem dX1_setArms_42 : decode cX1_setArms 42 = .ok (.iload_n 2, 1) := by decide +kernel
theorem dX1_setArms_43 : decode cX1_setArms 43 = .ok (.ireturn, 1) := by decide +kernel
theorem dX1_arms_0 : decode cX1_arms 0 = .ok (.aload_n 0, 1) := by decide +kernel
theorem dX1_arms_1 : decode cX1_arms 1 = .ok (.iconst 0, 1) := by decide +kernel
theorem dX1_arms_2 : decode cX1_arms 2 = .ok (.putfield 45, 3) := by decide +kernel
theorem dX1_arms_5 : decode cX1_arms 5 = .ok (.aload_n 0, 1) := by decide +kernel
theorem dX1_arms_6 : decode cX1_arms 6 = .ok (.getfield 7, 3) := by decide +kernel
theorem dX1_arms_9 : decode cX1_arms 9 = .ok (.ireturn, 1) := by decide +kernel
set_option maxRecDepth 20000 in
theorem ggX1_setInflow_X1_isArm : GoodIn wsX1_setInflow wsX1_isArm := goodIn_r _ [7, 8, 9, 10, 6, 11, 19, 20, 21, 22, 23, 24, 25, 26, 27, 28, 29, 30, 31] (by decide +kernel) (by decide +kernel)
set_option maxRecDepth 20000 in
theorem gX1_setInflow_X1_isArm : GoodIn wsX1_setInflow (wsV RX1 58 RX1 yX1_isArm wsX1_isArm) := goodIn_app (goodIn_of _ (by decide +kernel)) ggX1_setInflow_X1_isArm
set_option maxRecDepth 20000 in
theorem ggX1_setInflow_X1_within : GoodIn wsX1_setInflow wsX1_within := goodIn_r _ [11] (by decide +kernel) (by decide +kernel)
set_option maxRecDepth 20000 in
theorem gX1_setInflow_X1_within : GoodIn wsX1_setInflow (va_wsS RX1 48 yX1_within wsX1_within) := goodIn_app (goodIn_of _ (by decide +kernel)) ggX1_setInflow_X1_within
set_option maxRecDepth 20000 in
theorem ggX1_setInflow_X1_layWeights : GoodIn wsX1_setInflow wsX1_layWeights := goodIn_ca (goodIn_r _ [15, 16, 17, 18, 19, 20, 21, 22, 23, 24, 25, 26, 27, 28, 29, 30, 31] (by decide +kernel) (by decide +kernel)) (goodIn_sub (fun _ h => List.mem_cons_of_mem _ (List.mem_append_right _ h)) (by decide +kernel))
set_option maxRecDepth 20000 in
theorem gX1_setInflow_X1_layWeights : GoodIn wsX1_setInflow (wsV RX1 55 RX1 yX1_layWeights wsX1_layWeights) := goodIn_app (goodIn_of _ (by decide +kernel)) ggX1_setInflow_X1_layWeights
theorem dX1_setInflow_0 : decode cX1_setInflow 0 = .ok (.aload_n 0, 1) := by decide +kernel
theorem dX1_setInflow_1 : decode cX1_setInflow 1 = .ok (.aload_n 0, 1) := by decide +kernel
theorem dX1_setInflow_2 : decode cX1_setInflow 2 = .ok (.iload_n 1, 1) := by decide +kernel
theorem dX1_setInflow_3 : decode cX1_setInflow 3 = .ok (.invokevirtual 58, 3) := by decide +kernel
theorem dX1_setInflow_6 : decode cX1_setInflow 6 = .ok (.ifCond .ne 7, 3) := by decide +kernel
theorem dX1_setInflow_9 : decode cX1_setInflow 9 = .ok (.iconst 1, 1) := by decide +kernel
theorem dX1_setInflow_10 : decode cX1_setInflow 10 = .ok (.goto 19, 3) := by decide +kernel
theorem dX1_setInflow_13 : decode cX1_setInflow 13 = .ok (.iload_n 2, 1) := by decide +kernel
theorem dX1_setInflow_14 : decode cX1_setInflow 14 = .ok (.iconst 0, 1) := by decide +kernel
theorem dX1_setInflow_15 : decode cX1_setInflow 15 = .ok (.sipush 9999, 3) := by decide +kernel
theorem dX1_setInflow_18 : decode cX1_setInflow 18 = .ok (.invokestatic 48, 3) := by decide +kernel
theorem dX1_setInflow_21 : decode cX1_setInflow 21 = .ok (.ifCond .eq 7, 3) := by decide +kernel
theorem dX1_setInflow_24 : decode cX1_setInflow 24 = .ok (.iconst 0, 1) := by decide +kernel
theorem dX1_setInflow_25 : decode cX1_setInflow 25 = .ok (.goto 4, 3) := by decide +kernel
theorem dX1_setInflow_28 : decode cX1_setInflow 28 = .ok (.iconst 2, 1) := by decide +kernel
theorem dX1_setInflow_29 : decode cX1_setInflow 29 = .ok (.putfield 45, 3) := by decide +kernel
theorem dX1_setInflow_32 : decode cX1_setInflow 32 = .ok (.aload_n 0, 1) := by decide +kernel
theorem dX1_setInflow_33 : decode cX1_setInflow 33 = .ok (.getfield 45, 3) := by decide +kernel
theorem dX1_setInflow_36 : decode cX1_setInflow 36 = .ok (.ifCond .le 5, 3) := by decide +kernel
theorem dX1_setInflow_39 : decode cX1_setInflow 39 = .ok (.iconst 0, 1) := by decide +kernel
theorem dX1_setInflow_40 : decode cX1_setInflow 40 = .ok (.ireturn, 1) := by decide +kernel
theorem dX1_setInflow_41 : decode cX1_setInflow 41 = .ok (.aload_n 0, 1) := by decide +kernel
theorem dX1_setInflow_42 : decode cX1_setInflow 42 = .ok (.getfield 13, 3) := by decide +kernel
theorem dX1_setInflow_45 : decode cX1_setInflow 45 = .ok (.iload_n 1, 1) := by decide +kernel
theorem dX1_setInflow_46 : decode cX1_setInflow 46 = .ok (.iaload, 1) := by decide +kernel
theorem dX1_setInflow_47 : decode cX1_setInflow 47 = .ok (.istore_n 3, 1) := by decide +kernel
theorem dX1_setInflow_48 : decode cX1_setInflow 48 = .ok (.aload_n 0, 1) := by decide +kernel
theorem dX1_setInflow_49 : decode cX1_setInflow 49 = .ok (.getfield 13, 3) := by decide +kernel
theorem dX1_setInflow_52 : decode cX1_setInflow 52 = .ok (.iload_n 1, 1) := by decide +kernel
theorem dX1_setInflow_53 : decode cX1_setInflow 53 = .ok (.iload_n 2, 1) := by decide +kernel
theorem dX1_setInflow_54 : decode cX1_setInflow 54 = .ok (.iastore, 1) := by decide +kernel
theorem dX1_setInflow_55 : decode cX1_setInflow 55 = .ok (.aload_n 0, 1) := by decide +kernel
theorem dX1_setInflow_56 : decode cX1_setInflow 56 = .ok (.invokevirtual 55, 3) := by decide +kernel
theorem dX1_setInflow_59 : decode cX1_setInflow 59 = .ok (.iload_n 3, 1) := by decide +kernel
theorem dX1_setInflow_60 : decode cX1_setInflow 60 = .ok (.ireturn, 1) := by decide +kernel
set_option maxRecDepth 20000 in
theorem ggX1_setOutflow_X1_isArm : GoodIn wsX1_setOutflow wsX1_isArm := goodIn_r _ [7, 8, 9, 10, 6, 11, 19, 20, 21, 22, 23, 24, 25, 26, 27, 28, 29, 30, 31] (by decide +kernel) (by decide +kernel)
set_option maxRecDepth 20000 in
theorem gX1_setOutflow_X1_isArm : GoodIn wsX1_setOutflow (wsV RX1 58 RX1 yX1_isArm wsX1_isArm) := goodIn_app (goodIn_of _ (by decide +kernel)) ggX1_setOutflow_X1_isArm
set_option maxRecDepth 20000 in
theorem ggX1_setOutflow_X1_within : GoodIn wsX1_setOutflow wsX1_within := goodIn_r _ [11] (by decide +kernel) (by decide +kernel)
set_option maxRecDepth 20000 in
theorem gX1_setOutflow_X1_within : GoodIn wsX1_setOutflow (va_wsS RX1 48 yX1_within wsX1_within) := goodIn_app (goodIn_of _ (by decide +kernel)) ggX1_setOutflow_X1_within
set_option maxRecDepth 20000 in
theorem ggX1_setOutflow_X1_layWeights : GoodIn wsX1_setOutflow wsX1_layWeights := goodIn_ca (goodIn_r _ [15, 16, 17, 18, 19, 20, 21, 22, 23, 24, 25, 26, 27, 28, 29, 30, 31] (by decide +kernel) (by decide +kernel)) (goodIn_sub (fun _ h => List.mem_cons_of_mem _ (List.mem_append_right _ h)) (by decide +kernel))
set_option maxRecDepth 20000 in
theorem gX1_setOutflow_X1_layWeights : GoodIn wsX1_setOutflow (wsV RX1 55 RX1 yX1_layWeights wsX1_layWeights) := goodIn_app (goodIn_of _ (by decide +kernel)) ggX1_setOutflow_X1_layWeights
theorem dX1_setOutflow_0 : decode cX1_setOutflow 0 = .ok (.aload_n 0, 1) := by decide +kernel
theorem dX1_setOutflow_1 : decode cX1_setOutflow 1 = .ok (.aload_n 0, 1) := by decide +kernel
theorem dX1_setOutflow_2 : decode cX1_setOutflow 2 = .ok (.iload_n 1, 1) := by decide +kernel
theorem dX1_setOutflow_3 : decode cX1_setOutflow 3 = .ok (.invokevirtual 58, 3) := by decide +kernel
theorem dX1_setOutflow_6 : decode cX1_setOutflow 6 = .ok (.ifCond .ne 7, 3) := by decide +kernel
theorem dX1_setOutflow_9 : decode cX1_setOutflow 9 = .ok (.iconst 1, 1) := by decide +kernel
theorem dX1_setOutflow_10 : decode cX1_setOutflow 10 = .ok (.goto 19, 3) := by decide +kernel
theorem dX1_setOutflow_13 : decode cX1_setOutflow 13 = .ok (.iload_n 2, 1) := by decide +kernel
theorem dX1_setOutflow_14 : decode cX1_setOutflow 14 = .ok (.iconst 0, 1) := by decide +kernel
theorem dX1_setOutflow_15 : decode cX1_setOutflow 15 = .ok (.sipush 9999, 3) := by decide +kernel
theorem dX1_setOutflow_18 : decode cX1_setOutflow 18 = .ok (.invokestatic 48, 3) := by decide +kernel
theorem dX1_setOutflow_21 : decode cX1_setOutflow 21 = .ok (.ifCond .eq 7, 3) := by decide +kernel
theorem dX1_setOutflow_24 : decode cX1_setOutflow 24 = .ok (.iconst 0, 1) := by decide +kernel
theorem dX1_setOutflow_25 : decode cX1_setOutflow 25 = .ok (.goto 4, 3) := by decide +kernel
theorem dX1_setOutflow_28 : decode cX1_setOutflow 28 = .ok (.iconst 2, 1) := by decide +kernel
theorem dX1_setOutflow_29 : decode cX1_setOutflow 29 = .ok (.putfield 45, 3) := by decide +kernel
theorem dX1_setOutflow_32 : decode cX1_setOutflow 32 = .ok (.aload_n 0, 1) := by decide +kernel
theorem dX1_setOutflow_33 : decode cX1_setOutflow 33 = .ok (.getfield 45, 3) := by decide +kernel
theorem dX1_setOutflow_36 : decode cX1_setOutflow 36 = .ok (.ifCond .le 5, 3) := by decide +kernel
theorem dX1_setOutflow_39 : decode cX1_setOutflow 39 = .ok (.iconst 0, 1) := by decide +kernel
theorem dX1_setOutflow_40 : decode cX1_setOutflow 40 = .ok (.ireturn, 1) := by decide +kernel
theorem dX1_setOutflow_41 : decode cX1_setOutflow 41 = .ok (.aload_n 0, 1) := by decide +kernel
theorem dX1_setOutflow_42 : decode cX1_setOutflow 42 = .ok (.getfield 17, 3) := by decide +kernel
theorem dX1_setOutflow_45 : decode cX1_setOutflow 45 = .ok (.iload_n 1, 1) := by decide +kernel
theorem dX1_setOutflow_46 : decode cX1_setOutflow 46 = .ok (.iaload, 1) := by decide +kernel
theorem dX1_setOutflow_47 : decode cX1_setOutflow 47 = .ok (.istore_n 3, 1) := by decide +kernel
theorem dX1_setOutflow_48 : decode cX1_setOutflow 48 = .ok (.aload_n 0, 1) := by decide +kernel
theorem dX1_setOutflow_49 : decode cX1_setOutflow 49 = .ok (.getfield 17, 3) := by decide +kernel
theorem dX1_setOutflow_52 : decode cX1_setOutflow 52 = .ok (.iload_n 1, 1) := by decide +kernel
theorem dX1_setOutflow_53 : decode cX1_setOutflow 53 = .ok (.iload_n 2, 1) := by decide +kernel
theorem dX1_setOutflow_54 : decode cX1_setOutflow 54 = .ok (.iastore, 1) := by decide +kernel
theorem dX1_setOutflow_55 : decode cX1_setOutflow 55 = .ok (.aload_n 0, 1) := by decide +kernel
theorem dX1_setOutflow_56 : decode cX1_setOutflow 56 = .ok (.invokevirtual 55, 3) := by decide +kernel
theorem dX1_setOutflow_59 : decode cX1_setOutflow 59 = .ok (.iload_n 3, 1) := by decide +kernel
theorem dX1_setOutflow_60 : decode cX1_setOutflow 60 = .ok (.ireturn, 1) := by decide +kernel
set_option maxRecDepth 20000 in
theorem ggX1_setWeight_X1_isArm : GoodIn wsX1_setWeight wsX1_isArm := goodIn_r _ [7, 8, 9, 10, 6, 11, 18, 19, 20, 21, 22, 23, 24, 25, 26, 27, 28, 29, 30] (by decide +kernel) (by decide +kernel)
set_option maxRecDepth 20000 in
theorem gX1_setWeight_X1_isArm : GoodIn wsX1_setWeight (wsV RX1 58 RX1 yX1_isArm wsX1_isArm) := goodIn_app (goodIn_of _ (by decide +kernel)) ggX1_setWeight_X1_isArm
set_option maxRecDepth 20000 in
theorem ggX1_setWeight_X1_within : GoodIn wsX1_setWeight wsX1_within := goodIn_r _ [11] (by decide +kernel) (by decide +kernel)
set_option maxRecDepth 20000 in
theorem gX1_setWeight_X1_within : GoodIn wsX1_setWeight (va_wsS RX1 48 yX1_within wsX1_within) := goodIn_app (goodIn_of _ (by decide +kernel)) ggX1_setWeight_X1_within
set_option maxRecDepth 20000 in
theorem ggX1_setWeight_X1_layWeights : GoodIn wsX1_setWeight wsX1_layWeights := goodIn_ca (goodIn_r _ [15, 16, 2, 17, 18, 19, 20, 21, 22, 23, 24, 25, 26, 27, 28, 29, 30] (by decide +kernel) (by decide +kernel)) (goodIn_sub (fun _ h => List.mem_cons_of_mem _ (List.mem_append_right _ h)) (by decide +kernel))
set_option maxRecDepth 20000 in
theorem gX1_setWeight_X1_layWeights : GoodIn wsX1_setWeight (wsV RX1 55 RX1 yX1_layWeights wsX1_layWeights) := goodIn_app (goodIn_of _ (by decide +kernel)) ggX1_setWeight_X1_layWeights
theorem dX1_setWeight_0 : decode cX1_setWeight 0 = .ok (.aload_n 0, 1) := by decide +kernel
theorem dX1_setWeight_1 : decode cX1_setWeight 1 = .ok (.aload_n 0, 1) := by decide +kernel
theorem dX1_setWeight_2 : decode cX1_setWeight 2 = .ok (.iload_n 1, 1) := by decide +kernel
theorem dX1_setWeight_3 : decode cX1_setWeight 3 = .ok (.invokevirtual 58, 3) := by decide +kernel
theorem dX1_setWeight_6 : decode cX1_setWeight 6 = .ok (.ifCond .eq 11, 3) := by decide +kernel
theorem dX1_setWeight_9 : decode cX1_setWeight 9 = .ok (.aload_n 0, 1) := by decide +kernel
theorem dX1_setWeight_10 : decode cX1_setWeight 10 = .ok (.iload_n 2, 1) := by decide +kernel
theorem dX1_setWeight_11 : decode cX1_setWeight 11 = .ok (.invokevirtual 58, 3) := by decide +kernel
theorem dX1_setWeight_14 : decode cX1_setWeight 14 = .ok (.ifCond .ne 7, 3) := by decide +kernel
theorem dX1_setWeight_17 : decode cX1_setWeight 17 = .ok (.iconst 1, 1) := by decide +kernel
theorem dX1_setWeight_18 : decode cX1_setWeight 18 = .ok (.goto 18, 3) := by decide +kernel
theorem dX1_setWeight_21 : decode cX1_setWeight 21 = .ok (.iload_n 3, 1) := by decide +kernel
theorem dX1_setWeight_22 : decode cX1_setWeight 22 = .ok (.iconst 0, 1) := by decide +kernel
theorem dX1_setWeight_23 : decode cX1_setWeight 23 = .ok (.bipush 99, 2) := by decide +kernel
theorem dX1_setWeight_25 : decode cX1_setWeight 25 = .ok (.invokestatic 48, 3) := by decide +kernel
theorem dX1_setWeight_28 : decode cX1_setWeight 28 = .ok (.ifCond .eq 7, 3) := by decide +kernel
theorem dX1_setWeight_31 : decode cX1_setWeight 31 = .ok (.iconst 0, 1) := by decide +kernel
theorem dX1_setWeight_32 : decode cX1_setWeight 32 = .ok (.goto 4, 3) := by decide +kernel
theorem dX1_setWeight_35 : decode cX1_setWeight 35 = .ok (.iconst 2, 1) := by decide +kernel
theorem dX1_setWeight_36 : decode cX1_setWeight 36 = .ok (.putfield 45, 3) := by decide +kernel
theorem dX1_setWeight_39 : decode cX1_setWeight 39 = .ok (.aload_n 0, 1) := by decide +kernel
theorem dX1_setWeight_40 : decode cX1_setWeight 40 = .ok (.getfield 45, 3) := by decide +kernel
theorem dX1_setWeight_43 : decode cX1_setWeight 43 = .ok (.ifCond .le 5, 3) := by decide +kernel
theorem dX1_setWeight_46 : decode cX1_setWeight 46 = .ok (.iconst 0, 1) := by decide +kernel
theorem dX1_setWeight_47 : decode cX1_setWeight 47 = .ok (.ireturn, 1) := by decide +kernel
theorem dX1_setWeight_48 : decode cX1_setWeight 48 = .ok (.aload_n 0, 1) := by decide +kernel
theorem dX1_setWeight_49 : decode cX1_setWeight 49 = .ok (.getfield 20, 3) := by decide +kernel
theorem dX1_setWeight_52 : decode cX1_setWeight 52 = .ok (.bipush 6, 2) := by decide +kernel
theorem dX1_setWeight_54 : decode cX1_setWeight 54 = .ok (.iload_n 1, 1) := by decide +kernel
theorem dX1_setWeight_55 : decode cX1_setWeight 55 = .ok (.imul, 1) := by decide +kernel
theorem dX1_setWeight_56 : decode cX1_setWeight 56 = .ok (.iload_n 2, 1) := by decide +kernel
theorem dX1_setWeight_57 : decode cX1_setWeight 57 = .ok (.iadd, 1) := by decide +kernel
theorem dX1_setWeight_58 : decode cX1_setWeight 58 = .ok (.iaload, 1) := by decide +kernel
theorem dX1_setWeight_59 : decode cX1_setWeight 59 = .ok (.istore 4, 2) := by decide +kernel
theorem dX1_setWeight_61 : decode cX1_setWeight 61 = .ok (.aload_n 0, 1) := by decide +kernel
theorem dX1_setWeight_62 : decode cX1_setWeight 62 = .ok (.getfield 20, 3) := by decide +kernel
theorem dX1_setWeight_65 : decode cX1_setWeight 65 = .ok (.bipush 6, 2) := by decide +kernel
theorem dX1_setWeight_67 : decode cX1_setWeight 67 = .ok (.iload_n 1, 1) := by decide +kernel
theorem dX1_setWeight_68 : decode cX1_setWeight 68 = .ok (.imul, 1) := by decide +kernel
theorem dX1_setWeight_69 : decode cX1_setWeight 69 = .ok (.iload_n 2, 1) := by decide +kernel
theorem dX1_setWeight_70 : decode cX1_setWeight 70 = .ok (.iadd, 1) := by decide +kernel
theorem dX1_setWeight_71 : decode cX1_setWeight 71 = .ok (.iload_n 3, 1) := by decide +kernel
theorem dX1_setWeight_72 : decode cX1_setWeight 72 = .ok (.iastore, 1) := by decide +kernel
theorem dX1_setWeight_73 : decode cX1_setWeight 73 = .ok (.aload_n 0, 1) := by decide +kernel
theorem dX1_setWeight_74 : decode cX1_setWeight 74 = .ok (.invokevirtual 55, 3) := by decide +kernel
theorem dX1_setWeight_77 : decode cX1_setWeight 77 = .ok (.iload 4, 2) := by decide +kernel
theorem dX1_setWeight_79 : decode cX1_setWeight 79 = .ok (.ireturn, 1) := by decide +kernel
theorem dX1_scaled_0 : decode cX1_scaled 0 = .ok (.iload_n 0, 1) := by decide +kernel
theorem dX1_scaled_1 : decode cX1_scaled 1 = .ok (.iload_n 1, 1) := by decide +kernel
theorem dX1_scaled_2 : decode cX1_scaled 2 = .ok (.imul, 1) := by decide +kernel
theorem dX1_scaled_3 : decode cX1_scaled 3 = .ok (.bipush 50, 2) := by decide +kernel
theorem dX1_scaled_5 : decode cX1_scaled 5 = .ok (.iadd, 1) := by decide +kernel
theorem dX1_scaled_6 : decode cX1_scaled 6 = .ok (.bipush 100, 2) := by decide +kernel
theorem dX1_scaled_8 : decode cX1_scaled 8 = .ok (.idiv, 1) := by decide +kernel
theorem dX1_scaled_9 : decode cX1_scaled 9 = .ok (.ireturn, 1) := by decide +kernel
set_option maxRecDepth 20000 in
theorem ggX1_isScalable_X1_scaled : GoodIn wsX1_isScalable wsX1_scaled := goodIn_r _ [7] (by decide +kernel) (by decide +kernel)
set_option maxRecDepth 20000 in
theorem gX1_isScalable_X1_scaled : GoodIn wsX1_isScalable (va_wsS RX1 62 yX1_scaled wsX1_scaled) := goodIn_app (goodIn_of _ (by decide +kernel)) ggX1_isScalable_X1_scaled
theorem dX1_isScalable_0 : decode cX1_isScalable 0 = .ok (.iconst 1, 1) := by decide +kernel
theorem dX1_isScalable_1 : decode cX1_isScalable 1 = .ok (.istore_n 2, 1) := by decide +kernel
theorem dX1_isScalable_2 : decode cX1_isScalable 2 = .ok (.iconst 0, 1) := by decide +kernel
theorem dX1_isScalable_3 : decode cX1_isScalable 3 = .ok (.istore_n 3, 1) := by decide +kernel
theorem dX1_isScalable_4 : decode cX1_isScalable 4 = .ok (.iload_n 3, 1) := by decide +kernel
theorem dX1_isScalable_5 : decode cX1_isScalable 5 = .ok (.aload_n 0, 1) := by decide +kernel
theorem dX1_isScalable_6 : decode cX1_isScalable 6 = .ok (.getfield 7, 3) := by decide +kernel
theorem dX1_isScalable_9 : decode cX1_isScalable 9 = .ok (.if_icmp .ge 51, 3) := by decide +kernel
theorem dX1_isScalable_12 : decode cX1_isScalable 12 = .ok (.iload_n 2, 1) := by decide +kernel
theorem dX1_isScalable_13 : decode cX1_isScalable 13 = .ok (.ifCond .eq 39, 3) := by decide +kernel
theorem dX1_isScalable_16 : decode cX1_isScalable 16 = .ok (.aload_n 0, 1) := by decide +kernel
theorem dX1_isScalable_17 : decode cX1_isScalable 17 = .ok (.getfield 13, 3) := by decide +kernel
theorem dX1_isScalable_20 : decode cX1_isScalable 20 = .ok (.iload_n 3, 1) := by decide +kernel
theorem dX1_isScalable_21 : decode cX1_isScalable 21 = .ok (.iaload, 1) := by decide +kernel
theorem dX1_isScalable_22 : decode cX1_isScalable 22 = .ok (.iload_n 1, 1) := by decide +kernel
theorem dX1_isScalable_23 : decode cX1_isScalable 23 = .ok (.invokestatic 62, 3) := by decide +kernel
theorem dX1_isScalable_26 : decode cX1_isScalable 26 = .ok (.sipush 9999, 3) := by decide +kernel
theorem dX1_isScalable_29 : decode cX1_isScalable 29 = .ok (.if_icmp .gt 23, 3) := by decide +kernel
theorem dX1_isScalable_32 : decode cX1_isScalable 32 = .ok (.aload_n 0, 1) := by decide +kernel
theorem dX1_isScalable_33 : decode cX1_isScalable 33 = .ok (.getfield 17, 3) := by decide +kernel
theorem dX1_isScalable_36 : decode cX1_isScalable 36 = .ok (.iload_n 3, 1) := by decide +kernel
theorem dX1_isScalable_37 : decode cX1_isScalable 37 = .ok (.iaload, 1) := by decide +kernel
theorem dX1_isScalable_38 : decode cX1_isScalable 38 = .ok (.iload_n 1, 1) := by decide +kernel
theorem dX1_isScalable_39 : decode cX1_isScalable 39 = .ok (.invokestatic 62, 3) := by decide +kernel
theorem dX1_isScalable_42 : decode cX1_isScalable 42 = .ok (.sipush 9999, 3) := by decide +kernel
theorem dX1_isScalable_45 : decode cX1_isScalable 45 = .ok (.if_icmp .gt 7, 3) := by decide +kernel
theorem dX1_isScalable_48 : decode cX1_isScalable 48 = .ok (.iconst 1, 1) := by decide +kernel
theorem dX1_isScalable_49 : decode cX1_isScalable 49 = .ok (.goto 4, 3) := by decide +kernel
theorem dX1_isScalable_52 : decode cX1_isScalable 52 = .ok (.iconst 0, 1) := by decide +kernel
theorem dX1_isScalable_53 : decode cX1_isScalable 53 = .ok (.istore_n 2, 1) := by decide +kernel
theorem dX1_isScalable_54 : decode cX1_isScalable 54 = .ok (.iinc 3 1, 3) := by decide +kernel
theorem dX1_isScalable_57 : decode cX1_isScalable 57 = .ok (.goto (-53), 3) := by decide +kernel
theorem dX1_isScalable_60 : decode cX1_isScalable 60 = .ok (.iload_n 2, 1) := by decide +kernel
theorem dX1_isScalable_61 : decode cX1_isScalable 61 = .ok (.ireturn, 1) := by decide +kernel
set_option maxRecDepth 20000 in
theorem ggX1_scale_X1_within : GoodIn wsX1_scale wsX1_within := goodIn_r _ [8] (by decide +kernel) (by decide +kernel)
set_option maxRecDepth 20000 in
theorem gX1_scale_X1_within : GoodIn wsX1_scale (va_wsS RX1 48 yX1_within wsX1_within) := goodIn_app (goodIn_of _ (by decide +kernel)) ggX1_scale_X1_within
set_option maxRecDepth 20000 in
theorem ggX1_scale_X1_isScalable : GoodIn wsX1_scale wsX1_isScalable := goodIn_ca (goodIn_r _ [12, 2, 3, 4, 13, 14, 7, 15, 23, 24, 25, 26, 27, 28, 29, 30, 31, 32, 33, 34, 35] (by decide +kernel) (by decide +kernel)) (goodIn_sub (fun _ h => List.mem_cons_of_mem _ (List.mem_append_right _ h)) (by decide +kernel))
set_option maxRecDepth 20000 in
theorem gX1_scale_X1_isScalable : GoodIn wsX1_scale (wsV RX1 66 RX1 yX1_isScalable wsX1_isScalable) := goodIn_app (goodIn_of _ (by decide +kernel)) ggX1_scale_X1_isScalable
set_option maxRecDepth 20000 in
theorem ggX1_scale_X1_scaled : GoodIn wsX1_scale wsX1_scaled := goodIn_r _ [15] (by decide +kernel) (by decide +kernel)
set_option maxRecDepth 20000 in
theorem gX1_scale_X1_scaled : GoodIn wsX1_scale (va_wsS RX1 62 yX1_scaled wsX1_scaled) := goodIn_app (goodIn_of _ (by decide +kernel)) ggX1_scale_X1_scaled
set_option maxRecDepth 20000 in
theorem ggX1_scale_X1_layWeights : GoodIn wsX1_scale wsX1_layWeights := goodIn_ca (goodIn_r _ [19, 20, 21, 22, 23, 24, 25, 26, 27, 28, 29, 30, 31, 32, 33, 34, 35] (by decide +kernel) (by decide +kernel)) (goodIn_sub (fun _ h => List.mem_cons_of_mem _ (List.mem_append_right _ h)) (by decide +kernel))
set_option maxRecDepth 20000 in
theorem gX1_scale_X1_layWeights : GoodIn wsX1_scale (wsV RX1 55 RX1 yX1_layWeights wsX1_layWeights) := goodIn_app (goodIn_of _ (by decide +kernel)) ggX1_scale_X1_layWeights
theorem dX1_scale_0 : decode cX1_scale 0 = .ok (.aload_n 0, 1) := by decide +kernel
theorem dX1_scale_1 : decode cX1_scale 1 = .ok (.iload_n 1, 1) := by decide +kernel
theorem dX1_scale_2 : decode cX1_scale 2 = .ok (.iconst 0, 1) := by decide +kernel
theorem dX1_scale_3 : decode cX1_scale 3 = .ok (.sipush 300, 3) := by decide +kernel
theorem dX1_scale_6 : decode cX1_scale 6 = .ok (.invokestatic 48, 3) := by decide +kernel
theorem dX1_scale_9 : decode cX1_scale 9 = .ok (.ifCond .ne 7, 3) := by decide +kernel
theorem dX1_scale_12 : decode cX1_scale 12 = .ok (.iconst 1, 1) := by decide +kernel
theorem dX1_scale_13 : decode cX1_scale 13 = .ok (.goto 16, 3) := by decide +kernel
theorem dX1_scale_16 : decode cX1_scale 16 = .ok (.aload_n 0, 1) := by decide +kernel
theorem dX1_scale_17 : decode cX1_scale 17 = .ok (.iload_n 1, 1) := by decide +kernel
theorem dX1_scale_18 : decode cX1_scale 18 = .ok (.invokevirtual 66, 3) := by decide +kernel
theorem dX1_scale_21 : decode cX1_scale 21 = .ok (.ifCond .eq 7, 3) := by decide +kernel
theorem dX1_scale_24 : decode cX1_scale 24 = .ok (.iconst 0, 1) := by decide +kernel
theorem dX1_scale_25 : decode cX1_scale 25 = .ok (.goto 4, 3) := by decide +kernel
theorem dX1_scale_28 : decode cX1_scale 28 = .ok (.iconst 2, 1) := by decide +kernel
theorem dX1_scale_29 : decode cX1_scale 29 = .ok (.putfield 45, 3) := by decide +kernel
theorem dX1_scale_32 : decode cX1_scale 32 = .ok (.aload_n 0, 1) := by decide +kernel
theorem dX1_scale_33 : decode cX1_scale 33 = .ok (.getfield 45, 3) := by decide +kernel
theorem dX1_scale_36 : decode cX1_scale 36 = .ok (.ifCond .le 5, 3) := by decide +kernel
theorem dX1_scale_39 : decode cX1_scale 39 = .ok (.iconst 0, 1) := by decide +kernel
theorem dX1_scale_40 : decode cX1_scale 40 = .ok (.ireturn, 1) := by decide +kernel
theorem dX1_scale_41 : decode cX1_scale 41 = .ok (.iconst 0, 1) := by decide +kernel
theorem dX1_scale_42 : decode cX1_scale 42 = .ok (.istore_n 2, 1) := by decide +kernel
theorem dX1_scale_43 : decode cX1_scale 43 = .ok (.iconst 0, 1) := by decide +kernel
theorem dX1_scale_44 : decode cX1_scale 44 = .ok (.istore_n 3, 1) := by decide +kernel
theorem dX1_scale_45 : decode cX1_scale 45 = .ok (.iload_n 3, 1) := by decide +kernel
theorem dX1_scale_46 : decode cX1_scale 46 = .ok (.aload_n 0, 1) := by decide +kernel
theorem dX1_scale_47 : decode cX1_scale 47 = .ok (.getfield 7, 3) := by decide +kernel
theorem dX1_scale_50 : decode cX1_scale 50 = .ok (.if_icmp .ge 50, 3) := by decide +kernel
theorem dX1_scale_53 : decode cX1_scale 53 = .ok (.aload_n 0, 1) := by decide +kernel
theorem dX1_scale_54 : decode cX1_scale 54 = .ok (.getfield 13, 3) := by decide +kernel
theorem dX1_scale_57 : decode cX1_scale 57 = .ok (.iload_n 3, 1) := by decide +kernel
theorem dX1_scale_58 : decode cX1_scale 58 = .ok (.aload_n 0, 1) := by decide +kernel
theorem dX1_scale_59 : decode cX1_scale 59 = .ok (.getfield 13, 3) := by decide +kernel
theorem dX1_scale_62 : decode cX1_scale 62 = .ok (.iload_n 3, 1) := by decide +kernel
theorem dX1_scale_63 : decode cX1_scale 63 = .ok (.iaload, 1) := by decide +kernel
theorem dX1_scale_64 : decode cX1_scale 64 = .ok (.iload_n 1, 1) := by decide +kernel
theorem dX1_scale_65 : decode cX1_scale 65 = .ok (.invokestatic 62, 3) := by decide +kernel
theorem dX1_scale_68 : decode cX1_scale 68 = .ok (.iastore, 1) := by decide +kernel
theorem dX1_scale_69 : decode cX1_scale 69 = .ok (.aload_n 0, 1) := by decide +kernel
theorem dX1_scale_70 : decode cX1_scale 70 = .ok (.getfield 17, 3) := by decide +kernel
theorem dX1_scale_73 : decode cX1_scale 73 = .ok (.iload_n 3, 1) := by decide +kernel
theorem dX1_scale_74 : decode cX1_scale 74 = .ok (.aload_n 0, 1) := by decide +kernel
theorem dX1_scale_75 : decode cX1_scale 75 = .ok (.getfield 17, 3) := by decide +kernel
theorem dX1_scale_78 : decode cX1_scale 78 = .ok (.iload_n 3, 1) := by decide +kernel
theorem dX1_scale_79 : decode cX1_scale 79 = .ok (.iaload, 1) := by decide +kernel
theorem dX1_scale_80 : decode cX1_scale 80 = .ok (.iload_n 1, 1) := by decide +kernel
theorem dX1_scale_81 : decode cX1_scale 81 = .ok (.invokestatic 62, 3) := by decide +kernel
theorem dX1_scale_84 : decode cX1_scale 84 = .ok (.iastore, 1) := by decide +kernel
theorem dX1_scale_85 : decode cX1_scale 85 = .ok (.iload_n 2, 1) := by decide +kernel
theorem dX1_scale_86 : decode cX1_scale 86 = .ok (.aload_n 0, 1) := by decide +kernel
theorem dX1_scale_87 : decode cX1_scale 87 = .ok (.getfield 13, 3) := by decide +kernel
theorem dX1_scale_90 : decode cX1_scale 90 = .ok (.iload_n 3, 1) := by decide +kernel
theorem dX1_scale_91 : decode cX1_scale 91 = .ok (.iaload, 1) := by decide +kernel
theorem dX1_scale_92 : decode cX1_scale 92 = .ok (.iadd, 1) := by decide +kernel
theorem dX1_scale_93 : decode cX1_scale 93 = .ok (.istore_n 2, 1) := by decide +kernel
theorem dX1_scale_94 : decode cX1_scale 94 = .ok (.iinc 3 1, 3) := by decide +kernel
theorem dX1_scale_97 : decode cX1_scale 97 = .ok (.goto (-52), 3) := by decide +kernel
theorem dX1_scale_100 : decode cX1_scale 100 = .ok (.aload_n 0, 1) := by decide +kernel
theorem dX1_scale_101 : decode cX1_scale 101 = .ok (.invokevirtual 55, 3) := by decide +kernel
theorem dX1_scale_104 : decode cX1_scale 104 = .ok (.iload_n 2, 1) := by decide +kernel
theorem dX1_scale_105 : decode cX1_scale 105 = .ok (.ireturn, 1) := by decide +kernel
theorem dX1_difference_0 : decode cX1_difference 0 = .ok (.iconst 0, 1) := by decide +kernel
theorem dX1_difference_1 : decode cX1_difference 1 = .ok (.istore_n 1, 1) := by decide +kernel
theorem dX1_difference_2 : decode cX1_difference 2 = .ok (.iconst 0, 1) := by decide +kernel
theorem dX1_difference_3 : decode cX1_difference 3 = .ok (.istore_n 2, 1) := by decide +kernel
theorem dX1_difference_4 : decode cX1_difference 4 = .ok (.iload_n 2, 1) := by decide +kernel
theorem dX1_difference_5 : decode cX1_difference 5 = .ok (.aload_n 0, 1) := by decide +kernel
theorem dX1_difference_6 : decode cX1_difference 6 = .ok (.getfield 7, 3) := by decide +kernel
theorem dX1_difference_9 : decode cX1_difference 9 = .ok (.if_icmp .ge 25, 3) := by decide +kernel
theorem dX1_difference_12 : decode cX1_difference 12 = .ok (.iload_n 1, 1) := by decide +kernel
theorem dX1_difference_13 : decode cX1_difference 13 = .ok (.aload_n 0, 1) := by decide +kernel
theorem dX1_difference_14 : decode cX1_difference 14 = .ok (.getfield 13, 3) := by decide +kernel
theorem dX1_difference_17 : decode cX1_difference 17 = .ok (.iload_n 2, 1) := by decide +kernel
theorem dX1_difference_18 : decode cX1_difference 18 = .ok (.iaload, 1) := by decide +kernel
theorem dX1_difference_19 : decode cX1_difference 19 = .ok (.aload_n 0, 1) := by decide +kernel
theorem dX1_difference_20 : decode cX1_difference 20 = .ok (.getfield 17, 3) := by decide +kernel
theorem dX1_difference_23 : decode cX1_difference 23 = .ok (.iload_n 2, 1) := by decide +kernel
theorem dX1_difference_24 : decode cX1_difference 24 = .ok (.iaload, 1) := by decide +kernel
theorem dX1_difference_25 : decode cX1_difference 25 = .ok (.isub, 1) := by decide +kernel
theorem dX1_difference_26 : decode cX1_difference 26 = .ok (.iadd, 1) := by decide +kernel
theorem dX1_difference_27 : decode cX1_difference 27 = .ok (.istore_n 1, 1) := by decide +kernel
theorem dX1_difference_28 : decode cX1_difference 28 = .ok (.iinc 2 1, 3) := by decide +kernel
theorem dX1_difference_31 : decode cX1_difference 31 = .ok (.goto (-27), 3) := by decide +kernel
theorem dX1_difference_34 : decode cX1_difference 34 = .ok (.iload_n 1, 1) := by decide +kernel
theorem dX1_difference_35 : decode cX1_difference 35 = .ok (.ireturn, 1) := by decide +kernel
set_option maxRecDepth 20000 in
theorem ggX1_imbalance_X1_difference : GoodIn wsX1_imbalance wsX1_difference := goodIn_ca (goodIn_r _ [6, 7, 8, 9, 10, 11, 12, 13, 14, 15, 16, 17, 18, 19, 20, 21, 22] (by decide +kernel) (by decide +kernel)) (goodIn_sub (fun _ h => List.mem_cons_of_mem _ (List.mem_append_right _ h)) (by decide +kernel))
set_option maxRecDepth 20000 in
theorem gX1_imbalance_X1_difference : GoodIn wsX1_imbalance (wsV RX1 69 RX1 yX1_difference wsX1_difference) := goodIn_app (goodIn_of _ (by decide +kernel)) ggX1_imbalance_X1_difference
theorem dX1_imbalance_0 : decode cX1_imbalance 0 = .ok (.aload_n 0, 1) := by decide +kernel
theorem dX1_imbalance_1 : decode cX1_imbalance 1 = .ok (.iconst 0, 1) := by decide +kernel
theorem dX1_imbalance_2 : decode cX1_imbalance 2 = .ok (.putfield 45, 3) := by decide +kernel
theorem dX1_imbalance_5 : decode cX1_imbalance 5 = .ok (.aload_n 0, 1) := by decide +kernel
theorem dX1_imbalance_6 : decode cX1_imbalance 6 = .ok (.invokevirtual 69, 3) := by decide +kernel
theorem dX1_imbalance_9 : decode cX1_imbalance 9 = .ok (.ireturn, 1) := by decide +kernel
theorem dX1_excessOf_0 : decode cX1_excessOf 0 = .ok (.iconst 0, 1) := by decide +kernel
theorem dX1_excessOf_1 : decode cX1_excessOf 1 = .ok (.istore_n 2, 1) := by decide +kernel
theorem dX1_excessOf_2 : decode cX1_excessOf 2 = .ok (.iconst 0, 1) := by decide +kernel
theorem dX1_excessOf_3 : decode cX1_excessOf 3 = .ok (.istore_n 3, 1) := by decide +kernel
theorem dX1_excessOf_4 : decode cX1_excessOf 4 = .ok (.iload_n 3, 1) := by decide +kernel
theorem dX1_excessOf_5 : decode cX1_excessOf 5 = .ok (.aload_n 0, 1) := by decide +kernel
theorem dX1_excessOf_6 : decode cX1_excessOf 6 = .ok (.getfield 7, 3) := by decide +kernel
theorem dX1_excessOf_9 : decode cX1_excessOf 9 = .ok (.if_icmp .ge 107, 3) := by decide +kernel
theorem dX1_excessOf_12 : decode cX1_excessOf 12 = .ok (.iconst 0, 1) := by decide +kernel
theorem dX1_excessOf_13 : decode cX1_excessOf 13 = .ok (.istore 4, 2) := by decide +kernel
theorem dX1_excessOf_15 : decode cX1_excessOf 15 = .ok (.iconst 0, 1) := by decide +kernel
theorem dX1_excessOf_16 : decode cX1_excessOf 16 = .ok (.istore 5, 2) := by decide +kernel
theorem dX1_excessOf_18 : decode cX1_excessOf 18 = .ok (.iload 5, 2) := by decide +kernel
theorem dX1_excessOf_20 : decode cX1_excessOf 20 = .ok (.aload_n 0, 1) := by decide +kernel
theorem dX1_excessOf_21 : decode cX1_excessOf 21 = .ok (.getfield 7, 3) := by decide +kernel
theorem dX1_excessOf_24 : decode cX1_excessOf 24 = .ok (.if_icmp .ge 46, 3) := by decide +kernel
theorem dX1_excessOf_27 : decode cX1_excessOf 27 = .ok (.iload 4, 2) := by decide +kernel
theorem dX1_excessOf_29 : decode cX1_excessOf 29 = .ok (.ifCond .ne 28, 3) := by decide +kernel
theorem dX1_excessOf_32 : decode cX1_excessOf 32 = .ok (.iload_n 1, 1) := by decide +kernel
theorem dX1_excessOf_33 : decode cX1_excessOf 33 = .ok (.iload 5, 2) := by decide +kernel
theorem dX1_excessOf_35 : decode cX1_excessOf 35 = .ok (.ishr, 1) := by decide +kernel
theorem dX1_excessOf_36 : decode cX1_excessOf 36 = .ok (.iconst 1, 1) := by decide +kernel
theorem dX1_excessOf_37 : decode cX1_excessOf 37 = .ok (.iand, 1) := by decide +kernel
theorem dX1_excessOf_38 : decode cX1_excessOf 38 = .ok (.iconst 1, 1) := by decide +kernel
theorem dX1_excessOf_39 : decode cX1_excessOf 39 = .ok (.if_icmp .ne 22, 3) := by decide +kernel
theorem dX1_excessOf_42 : decode cX1_excessOf 42 = .ok (.aload_n 0, 1) := by decide +kernel
theorem dX1_excessOf_43 : decode cX1_excessOf 43 = .ok (.getfield 20, 3) := by decide +kernel
theorem dX1_excessOf_46 : decode cX1_excessOf 46 = .ok (.bipush 6, 2) := by decide +kernel
theorem dX1_excessOf_48 : decode cX1_excessOf 48 = .ok (.iload 5, 2) := by decide +kernel
theorem dX1_excessOf_50 : decode cX1_excessOf 50 = .ok (.imul, 1) := by decide +kernel
theorem dX1_excessOf_51 : decode cX1_excessOf 51 = .ok (.iload_n 3, 1) := by decide +kernel
theorem dX1_excessOf_52 : decode cX1_excessOf 52 = .ok (.iadd, 1) := by decide +kernel
theorem dX1_excessOf_53 : decode cX1_excessOf 53 = .ok (.iaload, 1) := by decide +kernel
theorem dX1_excessOf_54 : decode cX1_excessOf 54 = .ok (.ifCond .le 7, 3) := by decide +kernel
theorem dX1_excessOf_57 : decode cX1_excessOf 57 = .ok (.iconst 1, 1) := by decide +kernel
theorem dX1_excessOf_58 : decode cX1_excessOf 58 = .ok (.goto 4, 3) := by decide +kernel
theorem dX1_excessOf_61 : decode cX1_excessOf 61 = .ok (.iconst 0, 1) := by decide +kernel
theorem dX1_excessOf_62 : decode cX1_excessOf 62 = .ok (.istore 4, 2) := by decide +kernel
theorem dX1_excessOf_64 : decode cX1_excessOf 64 = .ok (.iinc 5 1, 3) := by decide +kernel
theorem dX1_excessOf_67 : decode cX1_excessOf 67 = .ok (.goto (-49), 3) := by decide +kernel
theorem dX1_excessOf_70 : decode cX1_excessOf 70 = .ok (.iload_n 2, 1) := by decide +kernel
theorem dX1_excessOf_71 : decode cX1_excessOf 71 = .ok (.iload_n 1, 1) := by decide +kernel
theorem dX1_excessOf_72 : decode cX1_excessOf 72 = .ok (.iload_n 3, 1) := by decide +kernel
theorem dX1_excessOf_73 : decode cX1_excessOf 73 = .ok (.ishr, 1) := by decide +kernel
theorem dX1_excessOf_74 : decode cX1_excessOf 74 = .ok (.iconst 1, 1) := by decide +kernel
theorem dX1_excessOf_75 : decode cX1_excessOf 75 = .ok (.iand, 1) := by decide +kernel
theorem dX1_excessOf_76 : decode cX1_excessOf 76 = .ok (.iconst 1, 1) := by decide +kernel
theorem dX1_excessOf_77 : decode cX1_excessOf 77 = .ok (.if_icmp .ne 12, 3) := by decide +kernel
theorem dX1_excessOf_80 : decode cX1_excessOf 80 = .ok (.aload_n 0, 1) := by decide +kernel
theorem dX1_excessOf_81 : decode cX1_excessOf 81 = .ok (.getfield 13, 3) := by decide +kernel
theorem dX1_excessOf_84 : decode cX1_excessOf 84 = .ok (.iload_n 3, 1) := by decide +kernel
theorem dX1_excessOf_85 : decode cX1_excessOf 85 = .ok (.iaload, 1) := by decide +kernel
theorem dX1_excessOf_86 : decode cX1_excessOf 86 = .ok (.goto 4, 3) := by decide +kernel
theorem dX1_excessOf_89 : decode cX1_excessOf 89 = .ok (.iconst 0, 1) := by decide +kernel
theorem dX1_excessOf_90 : decode cX1_excessOf 90 = .ok (.iadd, 1) := by decide +kernel
theorem dX1_excessOf_91 : decode cX1_excessOf 91 = .ok (.istore_n 2, 1) := by decide +kernel
theorem dX1_excessOf_92 : decode cX1_excessOf 92 = .ok (.iload_n 2, 1) := by decide +kernel
theorem dX1_excessOf_93 : decode cX1_excessOf 93 = .ok (.iload 4, 2) := by decide +kernel
theorem dX1_excessOf_95 : decode cX1_excessOf 95 = .ok (.ifCond .eq 12, 3) := by decide +kernel
theorem dX1_excessOf_98 : decode cX1_excessOf 98 = .ok (.aload_n 0, 1) := by decide +kernel
theorem dX1_excessOf_99 : decode cX1_excessOf 99 = .ok (.getfield 17, 3) := by decide +kernel
theorem dX1_excessOf_102 : decode cX1_excessOf 102 = .ok (.iload_n 3, 1) := by decide +kernel
theorem dX1_excessOf_103 : decode cX1_excessOf 103 = .ok (.iaload, 1) := by decide +kernel
theorem dX1_excessOf_104 : decode cX1_excessOf 104 = .ok (.goto 4, 3) := by decide +kernel
theorem dX1_excessOf_107 : decode cX1_excessOf 107 = .ok (.iconst 0, 1) := by decide +kernel
theorem dX1_excessOf_108 : decode cX1_excessOf 108 = .ok (.isub, 1) := by decide +kernel
theorem dX1_excessOf_109 : decode cX1_excessOf 109 = .ok (.istore_n 2, 1) := by decide +kernel
theorem dX1_excessOf_110 : decode cX1_excessOf 110 = .ok (.iinc 3 1, 3) := by decide +kernel
theorem dX1_excessOf_113 : decode cX1_excessOf 113 = .ok (.goto (-109), 3) := by decide +kernel
theorem dX1_excessOf_116 : decode cX1_excessOf 116 = .ok (.iload_n 2, 1) := by decide +kernel
theorem dX1_excessOf_117 : decode cX1_excessOf 117 = .ok (.ireturn, 1) := by decide +kernel
set_option maxRecDepth 20000 in
theorem ggX1_crowded_X1_excessOf : GoodIn wsX1_crowded wsX1_excessOf := goodIn_ca (goodIn_r _ [6, 1, 7, 8, 9, 10, 11, 12, 13, 14, 15, 16, 17, 18, 19, 20, 21, 22] (by decide +kernel) (by decide +kernel)) (goodIn_sub (fun _ h => List.mem_cons_of_mem _ (List.mem_append_right _ h)) (by decide +kernel))
set_option maxRecDepth 20000 in
theorem gX1_crowded_X1_excessOf : GoodIn wsX1_crowded (wsV RX1 73 RX1 yX1_excessOf wsX1_excessOf) := goodIn_app (goodIn_of _ (by decide +kernel)) ggX1_crowded_X1_excessOf
theorem dX1_crowded_0 : decode cX1_crowded 0 = .ok (.iconst 1, 1) := by decide +kernel
theorem dX1_crowded_1 : decode cX1_crowded 1 = .ok (.istore_n 1, 1) := by decide +kernel
theorem dX1_crowded_2 : decode cX1_crowded 2 = .ok (.iload_n 1, 1) := by decide +kernel
theorem dX1_crowded_3 : decode cX1_crowded 3 = .ok (.iconst 1, 1) := by decide +kernel
theorem dX1_crowded_4 : decode cX1_crowded 4 = .ok (.aload_n 0, 1) := by decide +kernel
theorem dX1_crowded_5 : decode cX1_crowded 5 = .ok (.getfield 7, 3) := by decide +kernel
theorem dX1_crowded_8 : decode cX1_crowded 8 = .ok (.ishl, 1) := by decide +kernel
theorem dX1_crowded_9 : decode cX1_crowded 9 = .ok (.if_icmp .ge 19, 3) := by decide +kernel
theorem dX1_crowded_12 : decode cX1_crowded 12 = .ok (.aload_n 0, 1) := by decide +kernel
theorem dX1_crowded_13 : decode cX1_crowded 13 = .ok (.iload_n 1, 1) := by decide +kernel
theorem dX1_crowded_14 : decode cX1_crowded 14 = .ok (.invokevirtual 73, 3) := by decide +kernel
theorem dX1_crowded_17 : decode cX1_crowded 17 = .ok (.ifCond .le 5, 3) := by decide +kernel
theorem dX1_crowded_20 : decode cX1_crowded 20 = .ok (.iload_n 1, 1) := by decide +kernel
theorem dX1_crowded_21 : decode cX1_crowded 21 = .ok (.ireturn, 1) := by decide +kernel
theorem dX1_crowded_22 : decode cX1_crowded 22 = .ok (.iinc 1 1, 3) := by decide +kernel
theorem dX1_crowded_25 : decode cX1_crowded 25 = .ok (.goto (-23), 3) := by decide +kernel
theorem dX1_crowded_28 : decode cX1_crowded 28 = .ok (.iconst (-1), 1) := by decide +kernel
theorem dX1_crowded_29 : decode cX1_crowded 29 = .ok (.ireturn, 1) := by decide +kernel
set_option maxRecDepth 20000 in
theorem ggX1_arePossible_X1_difference : GoodIn wsX1_arePossible wsX1_difference := goodIn_ca (goodIn_r _ [5, 6, 7, 8, 18, 19, 20, 21, 22, 23, 24, 25, 26, 27, 28, 29, 30] (by decide +kernel) (by decide +kernel)) (goodIn_sub (fun _ h => List.mem_cons_of_mem _ (List.mem_append_right _ h)) (by decide +kernel))
set_option maxRecDepth 20000 in
theorem gX1_arePossible_X1_difference : GoodIn wsX1_arePossible (wsV RX1 69 RX1 yX1_difference wsX1_difference) := goodIn_app (goodIn_of _ (by decide +kernel)) ggX1_arePossible_X1_difference
set_option maxRecDepth 20000 in
theorem ggX1_arePossible_X1_crowded : GoodIn wsX1_arePossible wsX1_crowded := goodIn_ca (goodIn_r _ [12, 6, 13, 14, 15, 4, 16, 17, 7, 8, 18, 19, 20, 21, 22, 23, 24, 25, 26, 27, 28, 29, 30] (by decide +kernel) (by decide +kernel)) (goodIn_sub (fun _ h => List.mem_cons_of_mem _ (List.mem_append_right _ h)) (by decide +kernel))
set_option maxRecDepth 20000 in
theorem gX1_arePossible_X1_crowded : GoodIn wsX1_arePossible (wsV RX1 77 RX1 yX1_crowded wsX1_crowded) := goodIn_app (goodIn_of _ (by decide +kernel)) ggX1_arePossible_X1_crowded
theorem dX1_arePossible_0 : decode cX1_arePossible 0 = .ok (.aload_n 0, 1) := by decide +kernel
theorem dX1_arePossible_1 : decode cX1_arePossible 1 = .ok (.invokevirtual 69, 3) := by decide +kernel
theorem dX1_arePossible_4 : decode cX1_arePossible 4 = .ok (.ifCond .ne 15, 3) := by decide +kernel
theorem dX1_arePossible_7 : decode cX1_arePossible 7 = .ok (.aload_n 0, 1) := by decide +kernel
theorem dX1_arePossible_8 : decode cX1_arePossible 8 = .ok (.invokevirtual 77, 3) := by decide +kernel
theorem dX1_arePossible_11 : decode cX1_arePossible 11 = .ok (.iconst (-1), 1) := by decide +kernel
theorem dX1_arePossible_12 : decode cX1_arePossible 12 = .ok (.if_icmp .ne 7, 3) := by decide +kernel
theorem dX1_arePossible_15 : decode cX1_arePossible 15 = .ok (.iconst 1, 1) := by decide +kernel
theorem dX1_arePossible_16 : decode cX1_arePossible 16 = .ok (.goto 4, 3) := by decide +kernel
theorem dX1_arePossible_19 : decode cX1_arePossible 19 = .ok (.iconst 0, 1) := by decide +kernel
theorem dX1_arePossible_20 : decode cX1_arePossible 20 = .ok (.ireturn, 1) := by decide +kernel
set_option maxRecDepth 20000 in
theorem ggX1_isPossible_X1_arePossible : GoodIn wsX1_isPossible wsX1_arePossible := goodIn_ca (goodIn_r _ [6, 7, 8, 9, 5, 10, 11, 12, 13, 14, 15, 16, 17, 18, 19, 20, 21, 22, 23, 24, 25, 26, 27, 28, 29, 30, 31, 32, 33, 34, 35] (by decide +kernel) (by decide +kernel)) (goodIn_sub (fun _ h => List.mem_cons_of_mem _ (List.mem_append_right _ h)) (by decide +kernel))
set_option maxRecDepth 20000 in
theorem gX1_isPossible_X1_arePossible : GoodIn wsX1_isPossible (wsV RX1 80 RX1 yX1_arePossible wsX1_arePossible) := goodIn_app (goodIn_of _ (by decide +kernel)) ggX1_isPossible_X1_arePossible
theorem dX1_isPossible_0 : decode cX1_isPossible 0 = .ok (.aload_n 0, 1) := by decide +kernel
theorem dX1_isPossible_1 : decode cX1_isPossible 1 = .ok (.iconst 0, 1) := by decide +kernel
theorem dX1_isPossible_2 : decode cX1_isPossible 2 = .ok (.putfield 45, 3) := by decide +kernel
theorem dX1_isPossible_5 : decode cX1_isPossible 5 = .ok (.aload_n 0, 1) := by decide +kernel
theorem dX1_isPossible_6 : decode cX1_isPossible 6 = .ok (.invokevirtual 80, 3) := by decide +kernel
theorem dX1_isPossible_9 : decode cX1_isPossible 9 = .ok (.ireturn, 1) := by decide +kernel
set_option maxRecDepth 20000 in
theorem ggX1_crowdedSet_X1_crowded : GoodIn wsX1_crowdedSet wsX1_crowded := goodIn_ca (goodIn_r _ [6, 7, 8, 9, 10, 5, 11, 12, 13, 14, 15, 16, 17, 18, 19, 20, 21, 22, 23, 24, 25, 26, 27] (by decide +kernel) (by decide +kernel)) (goodIn_sub (fun _ h => List.mem_cons_of_mem _ (List.mem_append_right _ h)) (by decide +kernel))
set_option maxRecDepth 20000 in
theorem gX1_crowdedSet_X1_crowded : GoodIn wsX1_crowdedSet (wsV RX1 77 RX1 yX1_crowded wsX1_crowded) := goodIn_app (goodIn_of _ (by decide +kernel)) ggX1_crowdedSet_X1_crowded
theorem dX1_crowdedSet_0 : decode cX1_crowdedSet 0 = .ok (.aload_n 0, 1) := by decide +kernel
theorem dX1_crowdedSet_1 : decode cX1_crowdedSet 1 = .ok (.iconst 0, 1) := by decide +kernel
theorem dX1_crowdedSet_2 : decode cX1_crowdedSet 2 = .ok (.putfield 45, 3) := by decide +kernel
theorem dX1_crowdedSet_5 : decode cX1_crowdedSet 5 = .ok (.aload_n 0, 1) := by decide +kernel
theorem dX1_crowdedSet_6 : decode cX1_crowdedSet 6 = .ok (.invokevirtual 77, 3) := by decide +kernel
theorem dX1_crowdedSet_9 : decode cX1_crowdedSet 9 = .ok (.ireturn, 1) := by decide +kernel
set_option maxRecDepth 20000 in
theorem ggX1_excess_X1_within : GoodIn wsX1_excess wsX1_within := goodIn_r _ [6] (by decide +kernel) (by decide +kernel)
set_option maxRecDepth 20000 in
theorem gX1_excess_X1_within : GoodIn wsX1_excess (va_wsS RX1 48 yX1_within wsX1_within) := goodIn_app (goodIn_of _ (by decide +kernel)) ggX1_excess_X1_within
set_option maxRecDepth 20000 in
theorem ggX1_excess_X1_excessOf : GoodIn wsX1_excess wsX1_excessOf := goodIn_ca (goodIn_r _ [10, 1, 11, 12, 13, 14, 15, 16, 17, 18, 19, 20, 21, 22, 23, 24, 25, 26] (by decide +kernel) (by decide +kernel)) (goodIn_sub (fun _ h => List.mem_cons_of_mem _ (List.mem_append_right _ h)) (by decide +kernel))
set_option maxRecDepth 20000 in
theorem gX1_excess_X1_excessOf : GoodIn wsX1_excess (wsV RX1 73 RX1 yX1_excessOf wsX1_excessOf) := goodIn_app (goodIn_of _ (by decide +kernel)) ggX1_excess_X1_excessOf
theorem dX1_excess_0 : decode cX1_excess 0 = .ok (.aload_n 0, 1) := by decide +kernel
theorem dX1_excess_1 : decode cX1_excess 1 = .ok (.iload_n 1, 1) := by decide +kernel
theorem dX1_excess_2 : decode cX1_excess 2 = .ok (.iconst 0, 1) := by decide +kernel
theorem dX1_excess_3 : decode cX1_excess 3 = .ok (.iconst 1, 1) := by decide +kernel
theorem dX1_excess_4 : decode cX1_excess 4 = .ok (.aload_n 0, 1) := by decide +kernel
theorem dX1_excess_5 : decode cX1_excess 5 = .ok (.getfield 7, 3) := by decide +kernel
theorem dX1_excess_8 : decode cX1_excess 8 = .ok (.ishl, 1) := by decide +kernel
theorem dX1_excess_9 : decode cX1_excess 9 = .ok (.iconst 1, 1) := by decide +kernel
theorem dX1_excess_10 : decode cX1_excess 10 = .ok (.isub, 1) := by decide +kernel
theorem dX1_excess_11 : decode cX1_excess 11 = .ok (.invokestatic 48, 3) := by decide +kernel
theorem dX1_excess_14 : decode cX1_excess 14 = .ok (.ifCond .eq 7, 3) := by decide +kernel
theorem dX1_excess_17 : decode cX1_excess 17 = .ok (.iconst 0, 1) := by decide +kernel
theorem dX1_excess_18 : decode cX1_excess 18 = .ok (.goto 4, 3) := by decide +kernel
theorem dX1_excess_21 : decode cX1_excess 21 = .ok (.iconst 1, 1) := by decide +kernel
theorem dX1_excess_22 : decode cX1_excess 22 = .ok (.putfield 45, 3) := by decide +kernel
theorem dX1_excess_25 : decode cX1_excess 25 = .ok (.aload_n 0, 1) := by decide +kernel
theorem dX1_excess_26 : decode cX1_excess 26 = .ok (.getfield 45, 3) := by decide +kernel
theorem dX1_excess_29 : decode cX1_excess 29 = .ok (.ifCond .le 7, 3) := by decide +kernel
theorem dX1_excess_32 : decode cX1_excess 32 = .ok (.iconst 0, 1) := by decide +kernel
theorem dX1_excess_33 : decode cX1_excess 33 = .ok (.goto 8, 3) := by decide +kernel
theorem dX1_excess_36 : decode cX1_excess 36 = .ok (.aload_n 0, 1) := by decide +kernel
theorem dX1_excess_37 : decode cX1_excess 37 = .ok (.iload_n 1, 1) := by decide +kernel
theorem dX1_excess_38 : decode cX1_excess 38 = .ok (.invokevirtual 73, 3) := by decide +kernel
theorem dX1_excess_41 : decode cX1_excess 41 = .ok (.ireturn, 1) := by decide +kernel
theorem dX1_rowSum_0 : decode cX1_rowSum 0 = .ok (.dconst 0, 1) := by decide +kernel
theorem dX1_rowSum_1 : decode cX1_rowSum 1 = .ok (.dstore_n 2, 1) := by decide +kernel
theorem dX1_rowSum_2 : decode cX1_rowSum 2 = .ok (.iconst 0, 1) := by decide +kernel
theorem dX1_rowSum_3 : decode cX1_rowSum 3 = .ok (.istore 4, 2) := by decide +kernel
theorem dX1_rowSum_5 : decode cX1_rowSum 5 = .ok (.iload 4, 2) := by decide +kernel
theorem dX1_rowSum_7 : decode cX1_rowSum 7 = .ok (.aload_n 0, 1) := by decide +kernel
theorem dX1_rowSum_8 : decode cX1_rowSum 8 = .ok (.getfield 7, 3) := by decide +kernel
theorem dX1_rowSum_11 : decode cX1_rowSum 11 = .ok (.if_icmp .ge 24, 3) := by decide +kernel
theorem dX1_rowSum_14 : decode cX1_rowSum 14 = .ok (.dload_n 2, 1) := by decide +kernel
theorem dX1_rowSum_15 : decode cX1_rowSum 15 = .ok (.aload_n 0, 1) := by decide +kernel
theorem dX1_rowSum_16 : decode cX1_rowSum 16 = .ok (.getfield 23, 3) := by decide +kernel
theorem dX1_rowSum_19 : decode cX1_rowSum 19 = .ok (.bipush 6, 2) := by decide +kernel
theorem dX1_rowSum_21 : decode cX1_rowSum 21 = .ok (.iload_n 1, 1) := by decide +kernel
theorem dX1_rowSum_22 : decode cX1_rowSum 22 = .ok (.imul, 1) := by decide +kernel
theorem dX1_rowSum_23 : decode cX1_rowSum 23 = .ok (.iload 4, 2) := by decide +kernel
theorem dX1_rowSum_25 : decode cX1_rowSum 25 = .ok (.iadd, 1) := by decide +kernel
theorem dX1_rowSum_26 : decode cX1_rowSum 26 = .ok (.daload, 1) := by decide +kernel
theorem dX1_rowSum_27 : decode cX1_rowSum 27 = .ok (.dadd, 1) := by decide +kernel
theorem dX1_rowSum_28 : decode cX1_rowSum 28 = .ok (.dstore_n 2, 1) := by decide +kernel
theorem dX1_rowSum_29 : decode cX1_rowSum 29 = .ok (.iinc 4 1, 3) := by decide +kernel
theorem dX1_rowSum_32 : decode cX1_rowSum 32 = .ok (.goto (-27), 3) := by decide +kernel
theorem dX1_rowSum_35 : decode cX1_rowSum 35 = .ok (.dload_n 2, 1) := by decide +kernel
theorem dX1_rowSum_36 : decode cX1_rowSum 36 = .ok (.dreturn, 1) := by decide +kernel
theorem dX1_columnSum_0 : decode cX1_columnSum 0 = .ok (.dconst 0, 1) := by decide +kernel
theorem dX1_columnSum_1 : decode cX1_columnSum 1 = .ok (.dstore_n 2, 1) := by decide +kernel
theorem dX1_columnSum_2 : decode cX1_columnSum 2 = .ok (.iconst 0, 1) := by decide +kernel
theorem dX1_columnSum_3 : decode cX1_columnSum 3 = .ok (.istore 4, 2) := by decide +kernel
theorem dX1_columnSum_5 : decode cX1_columnSum 5 = .ok (.iload 4, 2) := by decide +kernel
theorem dX1_columnSum_7 : decode cX1_columnSum 7 = .ok (.aload_n 0, 1) := by decide +kernel
theorem dX1_columnSum_8 : decode cX1_columnSum 8 = .ok (.getfield 7, 3) := by decide +kernel
theorem dX1_columnSum_11 : decode cX1_columnSum 11 = .ok (.if_icmp .ge 24, 3) := by decide +kernel
theorem dX1_columnSum_14 : decode cX1_columnSum 14 = .ok (.dload_n 2, 1) := by decide +kernel
theorem dX1_columnSum_15 : decode cX1_columnSum 15 = .ok (.aload_n 0, 1) := by decide +kernel
theorem dX1_columnSum_16 : decode cX1_columnSum 16 = .ok (.getfield 23, 3) := by decide +kernel
theorem dX1_columnSum_19 : decode cX1_columnSum 19 = .ok (.bipush 6, 2) := by decide +kernel
theorem dX1_columnSum_21 : decode cX1_columnSum 21 = .ok (.iload 4, 2) := by decide +kernel
theorem dX1_columnSum_23 : decode cX1_columnSum 23 = .ok (.imul, 1) := by decide +kernel
theorem dX1_columnSum_24 : decode cX1_columnSum 24 = .ok (.iload_n 1, 1) := by decide +kernel
theorem dX1_columnSum_25 : decode cX1_columnSum 25 = .ok (.iadd, 1) := by decide +kernel
theorem dX1_columnSum_26 : decode cX1_columnSum 26 = .ok (.daload, 1) := by decide +kernel
theorem dX1_columnSum_27 : decode cX1_columnSum 27 = .ok (.dadd, 1) := by decide +kernel
theorem dX1_columnSum_28 : decode cX1_columnSum 28 = .ok (.dstore_n 2, 1) := by decide +kernel
theorem dX1_columnSum_29 : decode cX1_columnSum 29 = .ok (.iinc 4 1, 3) := by decide +kernel
theorem dX1_columnSum_32 : decode cX1_columnSum 32 = .ok (.goto (-27), 3) := by decide +kernel
theorem dX1_columnSum_35 : decode cX1_columnSum 35 = .ok (.dload_n 2, 1) := by decide +kernel
theorem dX1_columnSum_36 : decode cX1_columnSum 36 = .ok (.dreturn, 1) := by decide +kernel
set_option maxRecDepth 20000 in
theorem ggX1_rowStep_X1_rowSum : GoodIn wsX1_rowStep wsX1_rowSum := goodIn_ca (goodIn_r _ [8, 2, 3, 9, 10, 11, 12, 13, 14, 15, 16, 17, 18, 19, 20, 21] (by decide +kernel) (by decide +kernel)) (goodIn_sub (fun _ h => List.mem_cons_of_mem _ (List.mem_append_right _ h)) (by decide +kernel))
set_option maxRecDepth 20000 in
theorem gX1_rowStep_X1_rowSum : GoodIn wsX1_rowStep (wsV RX1 84 RX1 yX1_rowSum wsX1_rowSum) := goodIn_app (goodIn_of _ (by decide +kernel)) ggX1_rowStep_X1_rowSum
theorem dX1_rowStep_0 : decode cX1_rowStep 0 = .ok (.aload_n 0, 1) := by decide +kernel
theorem dX1_rowStep_1 : decode cX1_rowStep 1 = .ok (.iload_n 1, 1) := by decide +kernel
theorem dX1_rowStep_2 : decode cX1_rowStep 2 = .ok (.invokevirtual 84, 3) := by decide +kernel
theorem dX1_rowStep_5 : decode cX1_rowStep 5 = .ok (.dstore_n 2, 1) := by decide +kernel
theorem dX1_rowStep_6 : decode cX1_rowStep 6 = .ok (.dload_n 2, 1) := by decide +kernel
theorem dX1_rowStep_7 : decode cX1_rowStep 7 = .ok (.dconst 0, 1) := by decide +kernel
theorem dX1_rowStep_8 : decode cX1_rowStep 8 = .ok (.dcmp .l, 1) := by decide +kernel
theorem dX1_rowStep_9 : decode cX1_rowStep 9 = .ok (.ifCond .le 49, 3) := by decide +kernel
theorem dX1_rowStep_12 : decode cX1_rowStep 12 = .ok (.aload_n 0, 1) := by decide +kernel
theorem dX1_rowStep_13 : decode cX1_rowStep 13 = .ok (.getfield 13, 3) := by decide +kernel
theorem dX1_rowStep_16 : decode cX1_rowStep 16 = .ok (.iload_n 1, 1) := by decide +kernel
theorem dX1_rowStep_17 : decode cX1_rowStep 17 = .ok (.iaload, 1) := by decide +kernel
theorem dX1_rowStep_18 : decode cX1_rowStep 18 = .ok (.i2d, 1) := by decide +kernel
theorem dX1_rowStep_19 : decode cX1_rowStep 19 = .ok (.dload_n 2, 1) := by decide +kernel
theorem dX1_rowStep_20 : decode cX1_rowStep 20 = .ok (.ddiv, 1) := by decide +kernel
theorem dX1_rowStep_21 : decode cX1_rowStep 21 = .ok (.dstore 4, 2) := by decide +kernel
theorem dX1_rowStep_23 : decode cX1_rowStep 23 = .ok (.iconst 0, 1) := by decide +kernel
theorem dX1_rowStep_24 : decode cX1_rowStep 24 = .ok (.istore 6, 2) := by decide +kernel
theorem dX1_rowStep_26 : decode cX1_rowStep 26 = .ok (.iload 6, 2) := by decide +kernel
theorem dX1_rowStep_28 : decode cX1_rowStep 28 = .ok (.aload_n 0, 1) := by decide +kernel
theorem dX1_rowStep_29 : decode cX1_rowStep 29 = .ok (.getfield 7, 3) := by decide +kernel
theorem dX1_rowStep_32 : decode cX1_rowStep 32 = .ok (.if_icmp .ge 26, 3) := by decide +kernel
theorem dX1_rowStep_35 : decode cX1_rowStep 35 = .ok (.aload_n 0, 1) := by decide +kernel
theorem dX1_rowStep_36 : decode cX1_rowStep 36 = .ok (.getfield 23, 3) := by decide +kernel
theorem dX1_rowStep_39 : decode cX1_rowStep 39 = .ok (.bipush 6, 2) := by decide +kernel
theorem dX1_rowStep_41 : decode cX1_rowStep 41 = .ok (.iload_n 1, 1) := by decide +kernel
theorem dX1_rowStep_42 : decode cX1_rowStep 42 = .ok (.imul, 1) := by decide +kernel
theorem dX1_rowStep_43 : decode cX1_rowStep 43 = .ok (.iload 6, 2) := by decide +kernel
theorem dX1_rowStep_45 : decode cX1_rowStep 45 = .ok (.iadd, 1) := by decide +kernel
theorem dX1_rowStep_46 : decode cX1_rowStep 46 = .ok (.dup2, 1) := by decide +kernel
theorem dX1_rowStep_47 : decode cX1_rowStep 47 = .ok (.daload, 1) := by decide +kernel
theorem dX1_rowStep_48 : decode cX1_rowStep 48 = .ok (.dload 4, 2) := by decide +kernel
theorem dX1_rowStep_50 : decode cX1_rowStep 50 = .ok (.dmul, 1) := by decide +kernel
theorem dX1_rowStep_51 : decode cX1_rowStep 51 = .ok (.dastore, 1) := by decide +kernel
theorem dX1_rowStep_52 : decode cX1_rowStep 52 = .ok (.iinc 6 1, 3) := by decide +kernel
theorem dX1_rowStep_55 : decode cX1_rowStep 55 = .ok (.goto (-29), 3) := by decide +kernel
theorem dX1_rowStep_58 : decode cX1_rowStep 58 = .ok (.return_, 1) := by decide +kernel
set_option maxRecDepth 20000 in
theorem ggX1_columnStep_X1_columnSum : GoodIn wsX1_columnStep wsX1_columnSum := goodIn_ca (goodIn_r _ [8, 2, 3, 9, 10, 11, 12, 13, 14, 15, 16, 17, 18, 19, 20, 21] (by decide +kernel) (by decide +kernel)) (goodIn_sub (fun _ h => List.mem_cons_of_mem _ (List.mem_append_right _ h)) (by decide +kernel))
set_option maxRecDepth 20000 in
theorem gX1_columnStep_X1_columnSum : GoodIn wsX1_columnStep (wsV RX1 88 RX1 yX1_columnSum wsX1_columnSum) := goodIn_app (goodIn_of _ (by decide +kernel)) ggX1_columnStep_X1_columnSum
theorem dX1_columnStep_0 : decode cX1_columnStep 0 = .ok (.aload_n 0, 1) := by decide +kernel
theorem dX1_columnStep_1 : decode cX1_columnStep 1 = .ok (.iload_n 1, 1) := by decide +kernel
theorem dX1_columnStep_2 : decode cX1_columnStep 2 = .ok (.invokevirtual 88, 3) := by decide +kernel
theorem dX1_columnStep_5 : decode cX1_columnStep 5 = .ok (.dstore_n 2, 1) := by decide +kernel
theorem dX1_columnStep_6 : decode cX1_columnStep 6 = .ok (.dload_n 2, 1) := by decide +kernel
theorem dX1_columnStep_7 : decode cX1_columnStep 7 = .ok (.dconst 0, 1) := by decide +kernel
theorem dX1_columnStep_8 : decode cX1_columnStep 8 = .ok (.dcmp .l, 1) := by decide +kernel
theorem dX1_columnStep_9 : decode cX1_columnStep 9 = .ok (.ifCond .le 49, 3) := by decide +kernel
theorem dX1_columnStep_12 : decode cX1_columnStep 12 = .ok (.aload_n 0, 1) := by decide +kernel
theorem dX1_columnStep_13 : decode cX1_columnStep 13 = .ok (.getfield 17, 3) := by decide +kernel
theorem dX1_columnStep_16 : decode cX1_columnStep 16 = .ok (.iload_n 1, 1) := by decide +kernel
theorem dX1_columnStep_17 : decode cX1_columnStep 17 = .ok (.iaload, 1) := by decide +kernel
theorem dX1_columnStep_18 : decode cX1_columnStep 18 = .ok (.i2d, 1) := by decide +kernel
theorem dX1_columnStep_19 : decode cX1_columnStep 19 = .ok (.dload_n 2, 1) := by decide +kernel
theorem dX1_columnStep_20 : decode cX1_columnStep 20 = .ok (.ddiv, 1) := by decide +kernel
theorem dX1_columnStep_21 : decode cX1_columnStep 21 = .ok (.dstore 4, 2) := by decide +kernel
theorem dX1_columnStep_23 : decode cX1_columnStep 23 = .ok (.iconst 0, 1) := by decide +kernel
theorem dX1_columnStep_24 : decode cX1_columnStep 24 = .ok (.istore 6, 2) := by decide +kernel
theorem dX1_columnStep_26 : decode cX1_columnStep 26 = .ok (.iload 6, 2) := by decide +kernel
theorem dX1_columnStep_28 : decode cX1_columnStep 28 = .ok (.aload_n 0, 1) := by decide +kernel
theorem dX1_columnStep_29 : decode cX1_columnStep 29 = .ok (.getfield 7, 3) := by decide +kernel
theorem dX1_columnStep_32 : decode cX1_columnStep 32 = .ok (.if_icmp .ge 26, 3) := by decide +kernel
theorem dX1_columnStep_35 : decode cX1_columnStep 35 = .ok (.aload_n 0, 1) := by decide +kernel
theorem dX1_columnStep_36 : decode cX1_columnStep 36 = .ok (.getfield 23, 3) := by decide +kernel
theorem dX1_columnStep_39 : decode cX1_columnStep 39 = .ok (.bipush 6, 2) := by decide +kernel
theorem dX1_columnStep_41 : decode cX1_columnStep 41 = .ok (.iload 6, 2) := by decide +kernel
theorem dX1_columnStep_43 : decode cX1_columnStep 43 = .ok (.imul, 1) := by decide +kernel
theorem dX1_columnStep_44 : decode cX1_columnStep 44 = .ok (.iload_n 1, 1) := by decide +kernel
theorem dX1_columnStep_45 : decode cX1_columnStep 45 = .ok (.iadd, 1) := by decide +kernel
theorem dX1_columnStep_46 : decode cX1_columnStep 46 = .ok (.dup2, 1) := by decide +kernel
theorem dX1_columnStep_47 : decode cX1_columnStep 47 = .ok (.daload, 1) := by decide +kernel
theorem dX1_columnStep_48 : decode cX1_columnStep 48 = .ok (.dload 4, 2) := by decide +kernel
theorem dX1_columnStep_50 : decode cX1_columnStep 50 = .ok (.dmul, 1) := by decide +kernel
theorem dX1_columnStep_51 : decode cX1_columnStep 51 = .ok (.dastore, 1) := by decide +kernel
theorem dX1_columnStep_52 : decode cX1_columnStep 52 = .ok (.iinc 6 1, 3) := by decide +kernel
theorem dX1_columnStep_55 : decode cX1_columnStep 55 = .ok (.goto (-29), 3) := by decide +kernel
theorem dX1_columnStep_58 : decode cX1_columnStep 58 = .ok (.return_, 1) := by decide +kernel
set_option maxRecDepth 20000 in
theorem ggX1_oneRound_X1_rowStep : GoodIn wsX1_oneRound wsX1_rowStep := goodIn_ca (goodIn_r _ [7, 8, 1, 9, 10, 11, 12, 6, 13, 23, 24, 25, 26, 27, 28, 29, 30, 31, 32, 33, 34, 35] (by decide +kernel) (by decide +kernel)) (goodIn_sub (fun _ h => List.mem_cons_of_mem _ (List.mem_append_right _ h)) (by decide +kernel))
set_option maxRecDepth 20000 in
theorem gX1_oneRound_X1_rowStep : GoodIn wsX1_oneRound (wsV RX1 91 RX1 yX1_rowStep wsX1_rowStep) := goodIn_app (goodIn_of _ (by decide +kernel)) ggX1_oneRound_X1_rowStep
set_option maxRecDepth 20000 in
theorem ggX1_oneRound_X1_columnStep : GoodIn wsX1_oneRound wsX1_columnStep := goodIn_ca (goodIn_r _ [17, 18, 1, 9, 19, 20, 21, 6, 22, 23, 24, 25, 26, 27, 28, 29, 30, 31, 32, 33, 34, 35] (by decide +kernel) (by decide +kernel)) (goodIn_sub (fun _ h => List.mem_cons_of_mem _ (List.mem_append_right _ h)) (by decide +kernel))
set_option maxRecDepth 20000 in
theorem gX1_oneRound_X1_columnStep : GoodIn wsX1_oneRound (wsV RX1 95 RX1 yX1_columnStep wsX1_columnStep) := goodIn_app (goodIn_of _ (by decide +kernel)) ggX1_oneRound_X1_columnStep
theorem dX1_oneRound_0 : decode cX1_oneRound 0 = .ok (.iconst 0, 1) := by decide +kernel
theorem dX1_oneRound_1 : decode cX1_oneRound 1 = .ok (.istore_n 1, 1) := by decide +kernel
theorem dX1_oneRound_2 : decode cX1_oneRound 2 = .ok (.iload_n 1, 1) := by decide +kernel
theorem dX1_oneRound_3 : decode cX1_oneRound 3 = .ok (.aload_n 0, 1) := by decide +kernel
theorem dX1_oneRound_4 : decode cX1_oneRound 4 = .ok (.getfield 7, 3) := by decide +kernel
theorem dX1_oneRound_7 : decode cX1_oneRound 7 = .ok (.if_icmp .ge 14, 3) := by decide +kernel
theorem dX1_oneRound_10 : decode cX1_oneRound 10 = .ok (.aload_n 0, 1) := by decide +kernel
theorem dX1_oneRound_11 : decode cX1_oneRound 11 = .ok (.iload_n 1, 1) := by decide +kernel
theorem dX1_oneRound_12 : decode cX1_oneRound 12 = .ok (.invokevirtual 91, 3) := by decide +kernel
theorem dX1_oneRound_15 : decode cX1_oneRound 15 = .ok (.iinc 1 1, 3) := by decide +kernel
theorem dX1_oneRound_18 : decode cX1_oneRound 18 = .ok (.goto (-16), 3) := by decide +kernel
theorem dX1_oneRound_21 : decode cX1_oneRound 21 = .ok (.iconst 0, 1) := by decide +kernel
theorem dX1_oneRound_22 : decode cX1_oneRound 22 = .ok (.istore_n 1, 1) := by decide +kernel
theorem dX1_oneRound_23 : decode cX1_oneRound 23 = .ok (.iload_n 1, 1) := by decide +kernel
theorem dX1_oneRound_24 : decode cX1_oneRound 24 = .ok (.aload_n 0, 1) := by decide +kernel
theorem dX1_oneRound_25 : decode cX1_oneRound 25 = .ok (.getfield 7, 3) := by decide +kernel
theorem dX1_oneRound_28 : decode cX1_oneRound 28 = .ok (.if_icmp .ge 14, 3) := by decide +kernel
theorem dX1_oneRound_31 : decode cX1_oneRound 31 = .ok (.aload_n 0, 1) := by decide +kernel
theorem dX1_oneRound_32 : decode cX1_oneRound 32 = .ok (.iload_n 1, 1) := by decide +kernel
theorem dX1_oneRound_33 : decode cX1_oneRound 33 = .ok (.invokevirtual 95, 3) := by decide +kernel
theorem dX1_oneRound_36 : decode cX1_oneRound 36 = .ok (.iinc 1 1, 3) := by decide +kernel
theorem dX1_oneRound_39 : decode cX1_oneRound 39 = .ok (.goto (-16), 3) := by decide +kernel
theorem dX1_oneRound_42 : decode cX1_oneRound 42 = .ok (.aload_n 0, 1) := by decide +kernel
theorem dX1_oneRound_43 : decode cX1_oneRound 43 = .ok (.dup, 1) := by decide +kernel
theorem dX1_oneRound_44 : decode cX1_oneRound 44 = .ok (.getfield 52, 3) := by decide +kernel
theorem dX1_oneRound_47 : decode cX1_oneRound 47 = .ok (.iconst 1, 1) := by decide +kernel
theorem dX1_oneRound_48 : decode cX1_oneRound 48 = .ok (.iadd, 1) := by decide +kernel
theorem dX1_oneRound_49 : decode cX1_oneRound 49 = .ok (.putfield 52, 3) := by decide +kernel
theorem dX1_oneRound_52 : decode cX1_oneRound 52 = .ok (.return_, 1) := by decide +kernel
theorem dX1_far_0 : decode cX1_far 0 = .ok (.dload_n 0, 1) := by decide +kernel
theorem dX1_far_1 : decode cX1_far 1 = .ok (.dload_n 2, 1) := by decide +kernel
theorem dX1_far_2 : decode cX1_far 2 = .ok (.dcmp .l, 1) := by decide +kernel
theorem dX1_far_3 : decode cX1_far 3 = .ok (.ifCond .le 9, 3) := by decide +kernel
theorem dX1_far_6 : decode cX1_far 6 = .ok (.dload_n 0, 1) := by decide +kernel
theorem dX1_far_7 : decode cX1_far 7 = .ok (.dload_n 2, 1) := by decide +kernel
theorem dX1_far_8 : decode cX1_far 8 = .ok (.dsub, 1) := by decide +kernel
theorem dX1_far_9 : decode cX1_far 9 = .ok (.goto 6, 3) := by decide +kernel
theorem dX1_far_12 : decode cX1_far 12 = .ok (.dload_n 2, 1) := by decide +kernel
theorem dX1_far_13 : decode cX1_far 13 = .ok (.dload_n 0, 1) := by decide +kernel
theorem dX1_far_14 : decode cX1_far 14 = .ok (.dsub, 1) := by decide +kernel
theorem dX1_far_15 : decode cX1_far 15 = .ok (.dreturn, 1) := by decide +kernel
set_option maxRecDepth 20000 in
theorem ggX1_misfitNow_X1_rowSum : GoodIn wsX1_misfitNow wsX1_rowSum := goodIn_ca (goodIn_r _ [8, 1, 9, 17, 18, 19, 20, 21, 22, 23, 24, 25, 26, 27, 28, 29] (by decide +kernel) (by decide +kernel)) (goodIn_sub (fun _ h => List.mem_cons_of_mem _ (List.mem_append_right _ h)) (by decide +kernel))
set_option maxRecDepth 20000 in
theorem gX1_misfitNow_X1_rowSum : GoodIn wsX1_misfitNow (wsV RX1 84 RX1 yX1_rowSum wsX1_rowSum) := goodIn_app (goodIn_of _ (by decide +kernel)) ggX1_misfitNow_X1_rowSum
set_option maxRecDepth 20000 in
theorem ggX1_misfitNow_X1_far : GoodIn wsX1_misfitNow wsX1_far := goodIn_r _ [12] (by decide +kernel) (by decide +kernel)
set_option maxRecDepth 20000 in
theorem gX1_misfitNow_X1_far : GoodIn wsX1_misfitNow (va_wsS RX1 98 yX1_far wsX1_far) := goodIn_app (goodIn_of _ (by decide +kernel)) ggX1_misfitNow_X1_far
set_option maxRecDepth 20000 in
theorem ggX1_misfitNow_X1_columnSum : GoodIn wsX1_misfitNow wsX1_columnSum := goodIn_ca (goodIn_r _ [16, 1, 9, 17, 18, 19, 20, 21, 22, 23, 24, 25, 26, 27, 28, 29] (by decide +kernel) (by decide +kernel)) (goodIn_sub (fun _ h => List.mem_cons_of_mem _ (List.mem_append_right _ h)) (by decide +kernel))
set_option maxRecDepth 20000 in
theorem gX1_misfitNow_X1_columnSum : GoodIn wsX1_misfitNow (wsV RX1 88 RX1 yX1_columnSum wsX1_columnSum) := goodIn_app (goodIn_of _ (by decide +kernel)) ggX1_misfitNow_X1_columnSum
theorem dX1_misfitNow_0 : decode cX1_misfitNow 0 = .ok (.dconst 0, 1) := by decide +kernel
theorem dX1_misfitNow_1 : decode cX1_misfitNow 1 = .ok (.dstore_n 1, 1) := by decide +kernel
theorem dX1_misfitNow_2 : decode cX1_misfitNow 2 = .ok (.iconst 0, 1) := by decide +kernel
theorem dX1_misfitNow_3 : decode cX1_misfitNow 3 = .ok (.istore_n 3, 1) := by decide +kernel
theorem dX1_misfitNow_4 : decode cX1_misfitNow 4 = .ok (.iload_n 3, 1) := by decide +kernel
theorem dX1_misfitNow_5 : decode cX1_misfitNow 5 = .ok (.aload_n 0, 1) := by decide +kernel
theorem dX1_misfitNow_6 : decode cX1_misfitNow 6 = .ok (.getfield 7, 3) := by decide +kernel
theorem dX1_misfitNow_9 : decode cX1_misfitNow 9 = .ok (.if_icmp .ge 71, 3) := by decide +kernel
theorem dX1_misfitNow_12 : decode cX1_misfitNow 12 = .ok (.aload_n 0, 1) := by decide +kernel
theorem dX1_misfitNow_13 : decode cX1_misfitNow 13 = .ok (.iload_n 3, 1) := by decide +kernel
theorem dX1_misfitNow_14 : decode cX1_misfitNow 14 = .ok (.invokevirtual 84, 3) := by decide +kernel
theorem dX1_misfitNow_17 : decode cX1_misfitNow 17 = .ok (.aload_n 0, 1) := by decide +kernel
theorem dX1_misfitNow_18 : decode cX1_misfitNow 18 = .ok (.getfield 13, 3) := by decide +kernel
theorem dX1_misfitNow_21 : decode cX1_misfitNow 21 = .ok (.iload_n 3, 1) := by decide +kernel
theorem dX1_misfitNow_22 : decode cX1_misfitNow 22 = .ok (.iaload, 1) := by decide +kernel
theorem dX1_misfitNow_23 : decode cX1_misfitNow 23 = .ok (.i2d, 1) := by decide +kernel
theorem dX1_misfitNow_24 : decode cX1_misfitNow 24 = .ok (.invokestatic 98, 3) := by decide +kernel
theorem dX1_misfitNow_27 : decode cX1_misfitNow 27 = .ok (.dstore 4, 2) := by decide +kernel
theorem dX1_misfitNow_29 : decode cX1_misfitNow 29 = .ok (.aload_n 0, 1) := by decide +kernel
theorem dX1_misfitNow_30 : decode cX1_misfitNow 30 = .ok (.iload_n 3, 1) := by decide +kernel
theorem dX1_misfitNow_31 : decode cX1_misfitNow 31 = .ok (.invokevirtual 88, 3) := by decide +kernel
theorem dX1_misfitNow_34 : decode cX1_misfitNow 34 = .ok (.aload_n 0, 1) := by decide +kernel
theorem dX1_misfitNow_35 : decode cX1_misfitNow 35 = .ok (.getfield 17, 3) := by decide +kernel
theorem dX1_misfitNow_38 : decode cX1_misfitNow 38 = .ok (.iload_n 3, 1) := by decide +kernel
theorem dX1_misfitNow_39 : decode cX1_misfitNow 39 = .ok (.iaload, 1) := by decide +kernel
theorem dX1_misfitNow_40 : decode cX1_misfitNow 40 = .ok (.i2d, 1) := by decide +kernel
theorem dX1_misfitNow_41 : decode cX1_misfitNow 41 = .ok (.invokestatic 98, 3) := by decide +kernel
theorem dX1_misfitNow_44 : decode cX1_misfitNow 44 = .ok (.dstore 6, 2) := by decide +kernel
theorem dX1_misfitNow_46 : decode cX1_misfitNow 46 = .ok (.dload 4, 2) := by decide +kernel
theorem dX1_misfitNow_48 : decode cX1_misfitNow 48 = .ok (.dload_n 1, 1) := by decide +kernel
theorem dX1_misfitNow_49 : decode cX1_misfitNow 49 = .ok (.dcmp .l, 1) := by decide +kernel
theorem dX1_misfitNow_50 : decode cX1_misfitNow 50 = .ok (.ifCond .le 8, 3) := by decide +kernel
theorem dX1_misfitNow_53 : decode cX1_misfitNow 53 = .ok (.dload 4, 2) := by decide +kernel
theorem dX1_misfitNow_55 : decode cX1_misfitNow 55 = .ok (.goto 4, 3) := by decide +kernel
theorem dX1_misfitNow_58 : decode cX1_misfitNow 58 = .ok (.dload_n 1, 1) := by decide +kernel
theorem dX1_misfitNow_59 : decode cX1_misfitNow 59 = .ok (.dstore_n 1, 1) := by decide +kernel
theorem dX1_misfitNow_60 : decode cX1_misfitNow 60 = .ok (.dload 6, 2) := by decide +kernel
theorem dX1_misfitNow_62 : decode cX1_misfitNow 62 = .ok (.dload_n 1, 1) := by decide +kernel
theorem dX1_misfitNow_63 : decode cX1_misfitNow 63 = .ok (.dcmp .l, 1) := by decide +kernel
theorem dX1_misfitNow_64 : decode cX1_misfitNow 64 = .ok (.ifCond .le 8, 3) := by decide +kernel
theorem dX1_misfitNow_67 : decode cX1_misfitNow 67 = .ok (.dload 6, 2) := by decide +kernel
theorem dX1_misfitNow_69 : decode cX1_misfitNow 69 = .ok (.goto 4, 3) := by decide +kernel
theorem dX1_misfitNow_72 : decode cX1_misfitNow 72 = .ok (.dload_n 1, 1) := by decide +kernel
theorem dX1_misfitNow_73 : decode cX1_misfitNow 73 = .ok (.dstore_n 1, 1) := by decide +kernel
theorem dX1_misfitNow_74 : decode cX1_misfitNow 74 = .ok (.iinc 3 1, 3) := by decide +kernel
theorem dX1_misfitNow_77 : decode cX1_misfitNow 77 = .ok (.goto (-73), 3) := by decide +kernel
theorem dX1_misfitNow_80 : decode cX1_misfitNow 80 = .ok (.dload_n 1, 1) := by decide +kernel
theorem dX1_misfitNow_81 : decode cX1_misfitNow 81 = .ok (.dreturn, 1) := by decide +kernel
set_option maxRecDepth 20000 in
theorem ggX1_iterate_X1_within : GoodIn wsX1_iterate wsX1_within := goodIn_r _ [6] (by decide +kernel) (by decide +kernel)
set_option maxRecDepth 20000 in
theorem gX1_iterate_X1_within : GoodIn wsX1_iterate (va_wsS RX1 48 yX1_within wsX1_within) := goodIn_app (goodIn_of _ (by decide +kernel)) ggX1_iterate_X1_within
set_option maxRecDepth 20000 in
theorem ggX1_iterate_X1_oneRound : GoodIn wsX1_iterate wsX1_oneRound := goodIn_ca (goodIn_r _ [10, 11, 2, 12, 13, 14, 5, 15, 16, 17, 18, 19, 20, 21, 22, 23, 24, 25, 26, 27, 28, 29, 30, 31, 32, 33, 34, 35, 36, 37, 38, 39, 40, 41, 42, 43] (by decide +kernel) (by decide +kernel)) (goodIn_sub (fun _ h => List.mem_cons_of_mem _ (List.mem_append_right _ h)) (by decide +kernel))
set_option maxRecDepth 20000 in
theorem gX1_iterate_X1_oneRound : GoodIn wsX1_iterate (wsV RX1 102 RX1 yX1_oneRound wsX1_oneRound) := goodIn_app (goodIn_of _ (by decide +kernel)) ggX1_iterate_X1_oneRound
theorem dX1_iterate_0 : decode cX1_iterate 0 = .ok (.aload_n 0, 1) := by decide +kernel
theorem dX1_iterate_1 : decode cX1_iterate 1 = .ok (.iload_n 1, 1) := by decide +kernel
theorem dX1_iterate_2 : decode cX1_iterate 2 = .ok (.iconst 1, 1) := by decide +kernel
theorem dX1_iterate_3 : decode cX1_iterate 3 = .ok (.bipush 50, 2) := by decide +kernel
theorem dX1_iterate_5 : decode cX1_iterate 5 = .ok (.invokestatic 48, 3) := by decide +kernel
theorem dX1_iterate_8 : decode cX1_iterate 8 = .ok (.ifCond .eq 7, 3) := by decide +kernel
theorem dX1_iterate_11 : decode cX1_iterate 11 = .ok (.iconst 0, 1) := by decide +kernel
theorem dX1_iterate_12 : decode cX1_iterate 12 = .ok (.goto 4, 3) := by decide +kernel
theorem dX1_iterate_15 : decode cX1_iterate 15 = .ok (.iconst 1, 1) := by decide +kernel
theorem dX1_iterate_16 : decode cX1_iterate 16 = .ok (.putfield 45, 3) := by decide +kernel
theorem dX1_iterate_19 : decode cX1_iterate 19 = .ok (.iconst 0, 1) := by decide +kernel
theorem dX1_iterate_20 : decode cX1_iterate 20 = .ok (.istore_n 2, 1) := by decide +kernel
theorem dX1_iterate_21 : decode cX1_iterate 21 = .ok (.iload_n 2, 1) := by decide +kernel
theorem dX1_iterate_22 : decode cX1_iterate 22 = .ok (.iload_n 1, 1) := by decide +kernel
theorem dX1_iterate_23 : decode cX1_iterate 23 = .ok (.if_icmp .ge 20, 3) := by decide +kernel
theorem dX1_iterate_26 : decode cX1_iterate 26 = .ok (.aload_n 0, 1) := by decide +kernel
theorem dX1_iterate_27 : decode cX1_iterate 27 = .ok (.getfield 45, 3) := by decide +kernel
theorem dX1_iterate_30 : decode cX1_iterate 30 = .ok (.ifCond .ne 13, 3) := by decide +kernel
theorem dX1_iterate_33 : decode cX1_iterate 33 = .ok (.aload_n 0, 1) := by decide +kernel
theorem dX1_iterate_34 : decode cX1_iterate 34 = .ok (.invokevirtual 102, 3) := by decide +kernel
theorem dX1_iterate_37 : decode cX1_iterate 37 = .ok (.iinc 2 1, 3) := by decide +kernel
theorem dX1_iterate_40 : decode cX1_iterate 40 = .ok (.goto (-19), 3) := by decide +kernel
theorem dX1_iterate_43 : decode cX1_iterate 43 = .ok (.aload_n 0, 1) := by decide +kernel
theorem dX1_iterate_44 : decode cX1_iterate 44 = .ok (.getfield 45, 3) := by decide +kernel
theorem dX1_iterate_47 : decode cX1_iterate 47 = .ok (.ifCond .le 7, 3) := by decide +kernel
theorem dX1_iterate_50 : decode cX1_iterate 50 = .ok (.iconst 0, 1) := by decide +kernel
theorem dX1_iterate_51 : decode cX1_iterate 51 = .ok (.goto 7, 3) := by decide +kernel
theorem dX1_iterate_54 : decode cX1_iterate 54 = .ok (.aload_n 0, 1) := by decide +kernel
theorem dX1_iterate_55 : decode cX1_iterate 55 = .ok (.getfield 52, 3) := by decide +kernel
theorem dX1_iterate_58 : decode cX1_iterate 58 = .ok (.ireturn, 1) := by decide +kernel
set_option maxRecDepth 20000 in
theorem ggX1_fit_X1_within : GoodIn wsX1_fit wsX1_within := goodIn_r _ [7] (by decide +kernel) (by decide +kernel)
set_option maxRecDepth 20000 in
theorem gX1_fit_X1_within : GoodIn wsX1_fit (va_wsS RX1 48 yX1_within wsX1_within) := goodIn_app (goodIn_of _ (by decide +kernel)) ggX1_fit_X1_within
set_option maxRecDepth 20000 in
theorem ggX1_fit_X1_misfitNow : GoodIn wsX1_fit wsX1_misfitNow := goodIn_ca (goodIn_r _ [11, 12, 13, 14, 15, 16, 17, 6, 18, 19, 20, 21, 22, 23, 24, 25, 26, 40, 41, 42, 43, 44, 45, 46, 47, 48, 49, 50, 51, 52] (by decide +kernel) (by decide +kernel)) (goodIn_sub (fun _ h => List.mem_cons_of_mem _ (List.mem_append_right _ h)) (by decide +kernel))
set_option maxRecDepth 20000 in
theorem gX1_fit_X1_misfitNow : GoodIn wsX1_fit (wsV RX1 106 RX1 yX1_misfitNow wsX1_misfitNow) := goodIn_app (goodIn_of _ (by decide +kernel)) ggX1_fit_X1_misfitNow
set_option maxRecDepth 20000 in
theorem ggX1_fit_X1_oneRound : GoodIn wsX1_fit wsX1_oneRound := goodIn_ca (goodIn_r _ [30, 12, 31, 32, 33, 34, 6, 35, 13, 19, 15, 16, 17, 18, 36, 37, 38, 39, 14, 23, 24, 25, 26, 40, 41, 42, 43, 44, 45, 46, 47, 48, 49, 50, 51, 52] (by decide +kernel) (by decide +kernel)) (goodIn_sub (fun _ h => List.mem_cons_of_mem _ (List.mem_append_right _ h)) (by decide +kernel))
set_option maxRecDepth 20000 in
theorem gX1_fit_X1_oneRound : GoodIn wsX1_fit (wsV RX1 102 RX1 yX1_oneRound wsX1_oneRound) := goodIn_app (goodIn_of _ (by decide +kernel)) ggX1_fit_X1_oneRound
theorem dX1_fit_0 : decode cX1_fit 0 = .ok (.aload_n 0, 1) := by decide +kernel
theorem dX1_fit_1 : decode cX1_fit 1 = .ok (.iload_n 1, 1) := by decide +kernel
theorem dX1_fit_2 : decode cX1_fit 2 = .ok (.iconst 0, 1) := by decide +kernel
theorem dX1_fit_3 : decode cX1_fit 3 = .ok (.ldc 105, 2) := by decide +kernel
theorem dX1_fit_5 : decode cX1_fit 5 = .ok (.invokestatic 48, 3) := by decide +kernel
theorem dX1_fit_8 : decode cX1_fit 8 = .ok (.ifCond .eq 17, 3) := by decide +kernel
theorem dX1_fit_11 : decode cX1_fit 11 = .ok (.iload_n 2, 1) := by decide +kernel
theorem dX1_fit_12 : decode cX1_fit 12 = .ok (.iconst 1, 1) := by decide +kernel
theorem dX1_fit_13 : decode cX1_fit 13 = .ok (.bipush 100, 2) := by decide +kernel
theorem dX1_fit_15 : decode cX1_fit 15 = .ok (.invokestatic 48, 3) := by decide +kernel
theorem dX1_fit_18 : decode cX1_fit 18 = .ok (.ifCond .eq 7, 3) := by decide +kernel
theorem dX1_fit_21 : decode cX1_fit 21 = .ok (.iconst 0, 1) := by decide +kernel
theorem dX1_fit_22 : decode cX1_fit 22 = .ok (.goto 4, 3) := by decide +kernel
theorem dX1_fit_25 : decode cX1_fit 25 = .ok (.iconst 1, 1) := by decide +kernel
theorem dX1_fit_26 : decode cX1_fit 26 = .ok (.putfield 45, 3) := by decide +kernel
theorem dX1_fit_29 : decode cX1_fit 29 = .ok (.iconst 0, 1) := by decide +kernel
theorem dX1_fit_30 : decode cX1_fit 30 = .ok (.istore_n 3, 1) := by decide +kernel
theorem dX1_fit_31 : decode cX1_fit 31 = .ok (.aload_n 0, 1) := by decide +kernel
theorem dX1_fit_32 : decode cX1_fit 32 = .ok (.getfield 45, 3) := by decide +kernel
theorem dX1_fit_35 : decode cX1_fit 35 = .ok (.ifCond .ne 32, 3) := by decide +kernel
theorem dX1_fit_38 : decode cX1_fit 38 = .ok (.iload_n 3, 1) := by decide +kernel
theorem dX1_fit_39 : decode cX1_fit 39 = .ok (.iload_n 2, 1) := by decide +kernel
theorem dX1_fit_40 : decode cX1_fit 40 = .ok (.if_icmp .ge 27, 3) := by decide +kernel
theorem dX1_fit_43 : decode cX1_fit 43 = .ok (.aload_n 0, 1) := by decide +kernel
theorem dX1_fit_44 : decode cX1_fit 44 = .ok (.invokevirtual 106, 3) := by decide +kernel
theorem dX1_fit_47 : decode cX1_fit 47 = .ok (.iload_n 1, 1) := by decide +kernel
theorem dX1_fit_48 : decode cX1_fit 48 = .ok (.i2d, 1) := by decide +kernel
theorem dX1_fit_49 : decode cX1_fit 49 = .ok (.ldc2_w 110, 3) := by decide +kernel
theorem dX1_fit_52 : decode cX1_fit 52 = .ok (.ddiv, 1) := by decide +kernel
theorem dX1_fit_53 : decode cX1_fit 53 = .ok (.dcmp .l, 1) := by decide +kernel
theorem dX1_fit_54 : decode cX1_fit 54 = .ok (.ifCond .le 13, 3) := by decide +kernel
theorem dX1_fit_57 : decode cX1_fit 57 = .ok (.aload_n 0, 1) := by decide +kernel
theorem dX1_fit_58 : decode cX1_fit 58 = .ok (.invokevirtual 102, 3) := by decide +kernel
theorem dX1_fit_61 : decode cX1_fit 61 = .ok (.iinc 3 1, 3) := by decide +kernel
theorem dX1_fit_64 : decode cX1_fit 64 = .ok (.goto (-33), 3) := by decide +kernel
theorem dX1_fit_67 : decode cX1_fit 67 = .ok (.iload_n 3, 1) := by decide +kernel
theorem dX1_fit_68 : decode cX1_fit 68 = .ok (.ireturn, 1) := by decide +kernel
set_option maxRecDepth 20000 in
theorem ggX1_reset_X1_layWeights : GoodIn wsX1_reset wsX1_layWeights := goodIn_ca (goodIn_r _ [7, 8, 9, 2, 10, 11, 12, 13, 14, 15, 16, 17, 18, 19, 20, 21, 22] (by decide +kernel) (by decide +kernel)) (goodIn_sub (fun _ h => List.mem_cons_of_mem _ (List.mem_append_right _ h)) (by decide +kernel))
set_option maxRecDepth 20000 in
theorem gX1_reset_X1_layWeights : GoodIn wsX1_reset (wsV RX1 55 RX1 yX1_layWeights wsX1_layWeights) := goodIn_app (goodIn_of _ (by decide +kernel)) ggX1_reset_X1_layWeights
theorem dX1_reset_0 : decode cX1_reset 0 = .ok (.aload_n 0, 1) := by decide +kernel
theorem dX1_reset_1 : decode cX1_reset 1 = .ok (.iconst 0, 1) := by decide +kernel
theorem dX1_reset_2 : decode cX1_reset 2 = .ok (.putfield 45, 3) := by decide +kernel
theorem dX1_reset_5 : decode cX1_reset 5 = .ok (.aload_n 0, 1) := by decide +kernel
theorem dX1_reset_6 : decode cX1_reset 6 = .ok (.getfield 52, 3) := by decide +kernel
theorem dX1_reset_9 : decode cX1_reset 9 = .ok (.istore_n 1, 1) := by decide +kernel
theorem dX1_reset_10 : decode cX1_reset 10 = .ok (.aload_n 0, 1) := by decide +kernel
theorem dX1_reset_11 : decode cX1_reset 11 = .ok (.invokevirtual 55, 3) := by decide +kernel
theorem dX1_reset_14 : decode cX1_reset 14 = .ok (.iload_n 1, 1) := by decide +kernel
theorem dX1_reset_15 : decode cX1_reset 15 = .ok (.ireturn, 1) := by decide +kernel
theorem dX1_rounds_0 : decode cX1_rounds 0 = .ok (.aload_n 0, 1) := by decide +kernel
theorem dX1_rounds_1 : decode cX1_rounds 1 = .ok (.iconst 0, 1) := by decide +kernel
theorem dX1_rounds_2 : decode cX1_rounds 2 = .ok (.putfield 45, 3) := by decide +kernel
theorem dX1_rounds_5 : decode cX1_rounds 5 = .ok (.aload_n 0, 1) := by decide +kernel
theorem dX1_rounds_6 : decode cX1_rounds 6 = .ok (.getfield 52, 3) := by decide +kernel
theorem dX1_rounds_9 : decode cX1_rounds 9 = .ok (.ireturn, 1) := by decide +kernel
set_option maxRecDepth 20000 in
theorem ggX1_areArms_X1_isArm : GoodIn wsX1_areArms wsX1_isArm := goodIn_r _ [5, 6, 7, 8, 4, 9, 10, 11, 12, 13, 14, 15, 16, 17, 18, 19, 20, 21, 22] (by decide +kernel) (by decide +kernel)
set_option maxRecDepth 20000 in
theorem gX1_areArms_X1_isArm : GoodIn wsX1_areArms (wsV RX1 58 RX1 yX1_isArm wsX1_isArm) := goodIn_app (goodIn_of _ (by decide +kernel)) ggX1_areArms_X1_isArm
theorem dX1_areArms_0 : decode cX1_areArms 0 = .ok (.aload_n 0, 1) := by decide +kernel
theorem dX1_areArms_1 : decode cX1_areArms 1 = .ok (.iload_n 1, 1) := by decide +kernel
theorem dX1_areArms_2 : decode cX1_areArms 2 = .ok (.invokevirtual 58, 3) := by decide +kernel
theorem dX1_areArms_5 : decode cX1_areArms 5 = .ok (.ifCond .eq 15, 3) := by decide +kernel
theorem dX1_areArms_8 : decode cX1_areArms 8 = .ok (.aload_n 0, 1) := by decide +kernel
theorem dX1_areArms_9 : decode cX1_areArms 9 = .ok (.iload_n 2, 1) := by decide +kernel
theorem dX1_areArms_10 : decode cX1_areArms 10 = .ok (.invokevirtual 58, 3) := by decide +kernel
theorem dX1_areArms_13 : decode cX1_areArms 13 = .ok (.ifCond .eq 7, 3) := by decide +kernel
theorem dX1_areArms_16 : decode cX1_areArms 16 = .ok (.iconst 1, 1) := by decide +kernel
theorem dX1_areArms_17 : decode cX1_areArms 17 = .ok (.goto 4, 3) := by decide +kernel
theorem dX1_areArms_20 : decode cX1_areArms 20 = .ok (.iconst 0, 1) := by decide +kernel
theorem dX1_areArms_21 : decode cX1_areArms 21 = .ok (.ireturn, 1) := by decide +kernel
set_option maxRecDepth 20000 in
theorem ggX1_estimate_X1_areArms : GoodIn wsX1_estimate wsX1_areArms := goodIn_r _ [7, 8, 9, 10, 6, 11, 12, 13, 14, 15, 16, 17, 18, 19, 20, 21, 22, 23, 24, 25, 26, 27, 28] (by decide +kernel) (by decide +kernel)
set_option maxRecDepth 20000 in
theorem gX1_estimate_X1_areArms : GoodIn wsX1_estimate (wsV RX1 112 RX1 yX1_areArms wsX1_areArms) := goodIn_app (goodIn_of _ (by decide +kernel)) ggX1_estimate_X1_areArms
theorem dX1_estimate_0 : decode cX1_estimate 0 = .ok (.aload_n 0, 1) := by decide +kernel
theorem dX1_estimate_1 : decode cX1_estimate 1 = .ok (.aload_n 0, 1) := by decide +kernel
theorem dX1_estimate_2 : decode cX1_estimate 2 = .ok (.iload_n 1, 1) := by decide +kernel
theorem dX1_estimate_3 : decode cX1_estimate 3 = .ok (.iload_n 2, 1) := by decide +kernel
theorem dX1_estimate_4 : decode cX1_estimate 4 = .ok (.invokevirtual 112, 3) := by decide +kernel
theorem dX1_estimate_7 : decode cX1_estimate 7 = .ok (.ifCond .eq 7, 3) := by decide +kernel
theorem dX1_estimate_10 : decode cX1_estimate 10 = .ok (.iconst 0, 1) := by decide +kernel
theorem dX1_estimate_11 : decode cX1_estimate 11 = .ok (.goto 4, 3) := by decide +kernel
theorem dX1_estimate_14 : decode cX1_estimate 14 = .ok (.iconst 1, 1) := by decide +kernel
theorem dX1_estimate_15 : decode cX1_estimate 15 = .ok (.putfield 45, 3) := by decide +kernel
theorem dX1_estimate_18 : decode cX1_estimate 18 = .ok (.aload_n 0, 1) := by decide +kernel
theorem dX1_estimate_19 : decode cX1_estimate 19 = .ok (.getfield 45, 3) := by decide +kernel
theorem dX1_estimate_22 : decode cX1_estimate 22 = .ok (.ifCond .le 7, 3) := by decide +kernel
theorem dX1_estimate_25 : decode cX1_estimate 25 = .ok (.dconst 0, 1) := by decide +kernel
theorem dX1_estimate_26 : decode cX1_estimate 26 = .ok (.goto 14, 3) := by decide +kernel
theorem dX1_estimate_29 : decode cX1_estimate 29 = .ok (.aload_n 0, 1) := by decide +kernel
theorem dX1_estimate_30 : decode cX1_estimate 30 = .ok (.getfield 23, 3) := by decide +kernel
theorem dX1_estimate_33 : decode cX1_estimate 33 = .ok (.bipush 6, 2) := by decide +kernel
theorem dX1_estimate_35 : decode cX1_estimate 35 = .ok (.iload_n 1, 1) := by decide +kernel
theorem dX1_estimate_36 : decode cX1_estimate 36 = .ok (.imul, 1) := by decide +kernel
theorem dX1_estimate_37 : decode cX1_estimate 37 = .ok (.iload_n 2, 1) := by decide +kernel
theorem dX1_estimate_38 : decode cX1_estimate 38 = .ok (.iadd, 1) := by decide +kernel
theorem dX1_estimate_39 : decode cX1_estimate 39 = .ok (.daload, 1) := by decide +kernel
theorem dX1_estimate_40 : decode cX1_estimate 40 = .ok (.dreturn, 1) := by decide +kernel
