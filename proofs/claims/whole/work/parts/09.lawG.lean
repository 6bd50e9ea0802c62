set_option maxRecDepth 20000 in
theorem ggL_law_X0_init : GoodIn wsL_law wsX0_init := goodIn_ca (goodIn_r _ [10, 11, 12, 13, 14, 15, 16, 17, 7, 18, 19, 20, 21, 22, 23, 24, 25, 26, 2, 27, 28, 29, 30, 31, 32, 33, 34, 35, 36, 37, 38, 39, 40, 550, 551, 552, 553, 554, 555, 556, 557, 558, 559, 560] (by decide +kernel) (by decide +kernel)) (goodIn_sub (fun _ h => List.mem_append_left _ (List.mem_append_left _ (List.mem_append_left _ (List.mem_append_left _ (List.mem_append_right _ h))))) (by decide +kernel))
set_option maxRecDepth 20000 in
theorem gL_law_X0_init : GoodIn wsL_law (wsX0_init) := ggL_law_X0_init
set_option maxRecDepth 20000 in
theorem ggL_law_X1_init : GoodIn wsL_law wsX1_init := goodIn_ca (goodIn_r _ [43, 44, 12, 13, 45, 14, 46, 47, 48, 7, 49, 50, 51, 52, 53, 54, 55, 56, 57, 5, 58, 59, 60, 61, 62, 63, 561, 562, 563, 564, 565, 566, 567, 568, 569, 570, 571, 572, 573] (by decide +kernel) (by decide +kernel)) (goodIn_sub (fun _ h => List.mem_append_left _ (List.mem_append_left _ (List.mem_append_left _ (List.mem_append_left _ (List.mem_append_right _ h))))) (by decide +kernel))
set_option maxRecDepth 20000 in
theorem gL_law_X1_init : GoodIn wsL_law (wsX1_init) := ggL_law_X1_init
set_option maxRecDepth 20000 in
theorem ggL_law_L_setArms : GoodIn wsL_law wsL_setArms := goodIn_ca (goodIn_ca (goodIn_r _ [67, 68, 69, 70, 71, 2, 72, 28, 73, 74, 75, 76, 77, 24, 25, 26, 27, 15, 16, 19, 29, 30, 31, 32, 17, 33, 34, 35, 36, 37, 38, 39, 18, 40, 550, 551, 552, 553, 554, 555, 556, 557, 558, 559, 560] (by decide +kernel) (by decide +kernel)) (goodIn_sub (fun _ h => List.mem_append_left _ (List.mem_append_left _ (List.mem_append_left _ (List.mem_append_left _ (List.mem_append_right _ h))))) (by decide +kernel))) (goodIn_sub (fun _ h => List.mem_append_left _ (List.mem_append_left _ (List.mem_append_left _ (List.mem_append_right _ h)))) (by decide +kernel))
set_option maxRecDepth 20000 in
theorem gL_law_L_setArms : GoodIn wsL_law (va_wsS RL 69 yL_setArms wsL_setArms) := goodIn_app (goodIn_of _ (by decide +kernel)) ggL_law_L_setArms
set_option maxRecDepth 20000 in
theorem ggL_law_X1_setArms : GoodIn wsL_law wsX1_setArms := goodIn_ca (goodIn_r _ [81, 82, 45, 83, 84, 5, 85, 55, 56, 57, 58, 48, 46, 47, 59, 60, 61, 62, 49, 63, 561, 562, 563, 564, 565, 566, 567, 568, 569, 570, 571, 572, 573] (by decide +kernel) (by decide +kernel)) (goodIn_sub (fun _ h => List.mem_append_left _ (List.mem_append_left _ (List.mem_append_left _ (List.mem_append_left _ (List.mem_append_right _ h))))) (by decide +kernel))
set_option maxRecDepth 20000 in
theorem gL_law_X1_setArms : GoodIn wsL_law (wsV RL 74 RX1 yX1_setArms wsX1_setArms) := goodIn_app (goodIn_of _ (by decide +kernel)) ggL_law_X1_setArms
set_option maxRecDepth 20000 in
theorem ggL_law_X1_thrown : GoodIn wsL_law wsX1_thrown := goodIn_r _ [89, 82, 561, 562, 563, 564, 565, 566, 567, 568, 569, 570, 571, 572, 573] (by decide +kernel) (by decide +kernel)
set_option maxRecDepth 20000 in
theorem gL_law_X1_thrown : GoodIn wsL_law (wsV RL 75 RX1 yX1_thrown wsX1_thrown) := goodIn_app (goodIn_of _ (by decide +kernel)) ggL_law_X1_thrown
set_option maxRecDepth 20000 in
theorem ggL_law_X0_arms : GoodIn wsL_law wsX0_arms := goodIn_r _ [93, 28, 550, 551, 552, 553, 554, 555, 556, 557, 558, 559, 560] (by decide +kernel) (by decide +kernel)
set_option maxRecDepth 20000 in
theorem gL_law_X0_arms : GoodIn wsL_law (wsV RL 79 RX0 yX0_arms wsX0_arms) := goodIn_app (goodIn_of _ (by decide +kernel)) ggL_law_X0_arms
set_option maxRecDepth 20000 in
theorem ggL_law_X1_arms : GoodIn wsL_law wsX1_arms := goodIn_r _ [97, 82, 45, 561, 562, 563, 564, 565, 566, 567, 568, 569, 570, 571, 572, 573] (by decide +kernel) (by decide +kernel)
set_option maxRecDepth 20000 in
theorem gL_law_X1_arms : GoodIn wsL_law (wsV RL 82 RX1 yX1_arms wsX1_arms) := goodIn_app (goodIn_of _ (by decide +kernel)) ggL_law_X1_arms
set_option maxRecDepth 20000 in
theorem ggL_law_L_setInflow : GoodIn wsL_law wsL_setInflow := goodIn_ca (goodIn_ca (goodIn_ca (goodIn_r _ [100, 101, 68, 102, 103, 104, 2, 105, 15, 106, 107, 108, 109, 110, 111, 112, 113, 114, 115, 28, 73, 74, 75, 76, 77, 36, 37, 38, 39, 18, 17, 40, 33, 34, 35, 550, 551, 552, 553, 554, 555, 556, 557, 558, 559, 560] (by decide +kernel) (by decide +kernel)) (goodIn_sub (fun _ h => List.mem_append_left _ (List.mem_append_left _ (List.mem_append_left _ (List.mem_append_left _ (List.mem_append_right _ h))))) (by decide +kernel))) (goodIn_sub (fun _ h => List.mem_append_left _ (List.mem_append_left _ (List.mem_append_right _ h))) (by decide +kernel))) (goodIn_sub (fun _ h => List.mem_append_left _ (List.mem_append_left _ (List.mem_append_left _ (List.mem_append_right _ h)))) (by decide +kernel))
set_option maxRecDepth 20000 in
theorem gL_law_L_setInflow : GoodIn wsL_law (va_wsS RL 83 yL_setInflow wsL_setInflow) := goodIn_app (goodIn_of _ (by decide +kernel)) ggL_law_L_setInflow
set_option maxRecDepth 20000 in
theorem ggL_law_X1_setInflow : GoodIn wsL_law wsX1_setInflow := goodIn_ca (goodIn_r _ [119, 82, 46, 120, 121, 122, 5, 123, 45, 83, 84, 85, 59, 60, 61, 62, 49, 48, 63, 561, 562, 563, 564, 565, 566, 567, 568, 569, 570, 571, 572, 573] (by decide +kernel) (by decide +kernel)) (goodIn_sub (fun _ h => List.mem_append_left _ (List.mem_append_left _ (List.mem_append_left _ (List.mem_append_left _ (List.mem_append_right _ h))))) (by decide +kernel))
set_option maxRecDepth 20000 in
theorem gL_law_X1_setInflow : GoodIn wsL_law (wsV RL 86 RX1 yX1_setInflow wsX1_setInflow) := goodIn_app (goodIn_of _ (by decide +kernel)) ggL_law_X1_setInflow
set_option maxRecDepth 20000 in
theorem ggL_law_L_setOutflow : GoodIn wsL_law wsL_setOutflow := goodIn_ca (goodIn_ca (goodIn_ca (goodIn_r _ [126, 101, 68, 127, 128, 129, 2, 130, 16, 106, 107, 108, 109, 110, 111, 112, 113, 114, 115, 28, 73, 74, 75, 76, 77, 36, 37, 38, 39, 18, 17, 40, 33, 34, 35, 550, 551, 552, 553, 554, 555, 556, 557, 558, 559, 560] (by decide +kernel) (by decide +kernel)) (goodIn_sub (fun _ h => List.mem_append_left _ (List.mem_append_left _ (List.mem_append_left _ (List.mem_append_left _ (List.mem_append_right _ h))))) (by decide +kernel))) (goodIn_sub (fun _ h => List.mem_append_left _ (List.mem_append_left _ (List.mem_append_right _ h))) (by decide +kernel))) (goodIn_sub (fun _ h => List.mem_append_left _ (List.mem_append_left _ (List.mem_append_left _ (List.mem_append_right _ h)))) (by decide +kernel))
set_option maxRecDepth 20000 in
theorem gL_law_L_setOutflow : GoodIn wsL_law (va_wsS RL 87 yL_setOutflow wsL_setOutflow) := goodIn_app (goodIn_of _ (by decide +kernel)) ggL_law_L_setOutflow
set_option maxRecDepth 20000 in
theorem ggL_law_X1_setOutflow : GoodIn wsL_law wsX1_setOutflow := goodIn_ca (goodIn_r _ [134, 82, 47, 120, 121, 122, 5, 123, 45, 83, 84, 85, 59, 60, 61, 62, 49, 48, 63, 561, 562, 563, 564, 565, 566, 567, 568, 569, 570, 571, 572, 573] (by decide +kernel) (by decide +kernel)) (goodIn_sub (fun _ h => List.mem_append_left _ (List.mem_append_left _ (List.mem_append_left _ (List.mem_append_left _ (List.mem_append_right _ h))))) (by decide +kernel))
set_option maxRecDepth 20000 in
theorem gL_law_X1_setOutflow : GoodIn wsL_law (wsV RL 89 RX1 yX1_setOutflow wsX1_setOutflow) := goodIn_app (goodIn_of _ (by decide +kernel)) ggL_law_X1_setOutflow
set_option maxRecDepth 20000 in
theorem ggL_law_L_setWeight : GoodIn wsL_law wsL_setWeight := goodIn_ca (goodIn_ca (goodIn_ca (goodIn_r _ [137, 101, 68, 138, 139, 140, 2, 141, 17, 110, 111, 112, 113, 114, 115, 28, 73, 74, 75, 76, 77, 33, 34, 35, 29, 30, 31, 32, 19, 36, 37, 38, 39, 18, 40, 550, 551, 552, 553, 554, 555, 556, 557, 558, 559, 560] (by decide +kernel) (by decide +kernel)) (goodIn_sub (fun _ h => List.mem_append_left _ (List.mem_append_left _ (List.mem_append_left _ (List.mem_append_left _ (List.mem_append_right _ h))))) (by decide +kernel))) (goodIn_sub (fun _ h => List.mem_append_left _ (List.mem_append_left _ (List.mem_append_right _ h))) (by decide +kernel))) (goodIn_sub (fun _ h => List.mem_append_left _ (List.mem_append_left _ (List.mem_append_left _ (List.mem_append_right _ h)))) (by decide +kernel))
set_option maxRecDepth 20000 in
theorem gL_law_L_setWeight : GoodIn wsL_law (va_wsS RL 90 yL_setWeight wsL_setWeight) := goodIn_app (goodIn_of _ (by decide +kernel)) ggL_law_L_setWeight
set_option maxRecDepth 20000 in
theorem ggL_law_X1_setWeight : GoodIn wsL_law wsX1_setWeight := goodIn_ca (goodIn_r _ [145, 82, 48, 120, 121, 122, 5, 123, 45, 83, 84, 85, 59, 60, 61, 62, 49, 63, 561, 562, 563, 564, 565, 566, 567, 568, 569, 570, 571, 572, 573] (by decide +kernel) (by decide +kernel)) (goodIn_sub (fun _ h => List.mem_append_left _ (List.mem_append_left _ (List.mem_append_left _ (List.mem_append_left _ (List.mem_append_right _ h))))) (by decide +kernel))
set_option maxRecDepth 20000 in
theorem gL_law_X1_setWeight : GoodIn wsL_law (wsV RL 93 RX1 yX1_setWeight wsX1_setWeight) := goodIn_app (goodIn_of _ (by decide +kernel)) ggL_law_X1_setWeight
set_option maxRecDepth 20000 in
theorem ggL_law_L_scale : GoodIn wsL_law wsL_scale := goodIn_ca (goodIn_ca (goodIn_ca (goodIn_r _ [148, 68, 149, 150, 151, 152, 2, 153, 28, 15, 16, 73, 74, 75, 76, 77, 154, 155, 156, 157, 158, 159, 160, 161, 36, 37, 38, 39, 18, 17, 40, 33, 34, 35, 162, 163, 164, 165, 550, 551, 552, 553, 554, 555, 556, 557, 558, 559, 560] (by decide +kernel) (by decide +kernel)) (goodIn_sub (fun _ h => List.mem_append_left _ (List.mem_append_left _ (List.mem_append_left _ (List.mem_append_left _ (List.mem_append_right _ h))))) (by decide +kernel))) (goodIn_sub (fun _ h => List.mem_append_left _ (List.mem_append_left _ (List.mem_append_left _ (List.mem_append_right _ h)))) (by decide +kernel))) (goodIn_sub (fun _ h => List.mem_append_left _ (List.mem_append_right _ h)) (by decide +kernel))
set_option maxRecDepth 20000 in
theorem gL_law_L_scale : GoodIn wsL_law (va_wsS RL 94 yL_scale wsL_scale) := goodIn_app (goodIn_of _ (by decide +kernel)) ggL_law_L_scale
set_option maxRecDepth 20000 in
theorem ggL_law_X1_scale : GoodIn wsL_law wsX1_scale := goodIn_ca (goodIn_r _ [169, 82, 45, 46, 47, 83, 84, 5, 85, 170, 171, 172, 173, 174, 175, 176, 59, 60, 61, 62, 49, 48, 63, 561, 562, 563, 564, 565, 566, 567, 568, 569, 570, 571, 572, 573] (by decide +kernel) (by decide +kernel)) (goodIn_sub (fun _ h => List.mem_append_left _ (List.mem_append_left _ (List.mem_append_left _ (List.mem_append_left _ (List.mem_append_right _ h))))) (by decide +kernel))
set_option maxRecDepth 20000 in
theorem gL_law_X1_scale : GoodIn wsL_law (wsV RL 96 RX1 yX1_scale wsX1_scale) := goodIn_app (goodIn_of _ (by decide +kernel)) ggL_law_X1_scale
set_option maxRecDepth 20000 in
theorem ggL_law_X0_imbalance : GoodIn wsL_law wsX0_imbalance := goodIn_ca (goodIn_r _ [180, 15, 16, 162, 163, 164, 2, 165, 28, 550, 551, 552, 553, 554, 555, 556, 557, 558, 559, 560] (by decide +kernel) (by decide +kernel)) (goodIn_sub (fun _ h => List.mem_append_left _ (List.mem_append_left _ (List.mem_append_left _ (List.mem_append_left _ (List.mem_append_right _ h))))) (by decide +kernel))
set_option maxRecDepth 20000 in
theorem gL_law_X0_imbalance : GoodIn wsL_law (wsV RL 97 RX0 yX0_imbalance wsX0_imbalance) := goodIn_app (goodIn_of _ (by decide +kernel)) ggL_law_X0_imbalance
set_option maxRecDepth 20000 in
theorem ggL_law_X1_imbalance : GoodIn wsL_law wsX1_imbalance := goodIn_ca (goodIn_r _ [184, 82, 185, 186, 187, 5, 188, 45, 46, 47, 561, 562, 563, 564, 565, 566, 567, 568, 569, 570, 571, 572, 573] (by decide +kernel) (by decide +kernel)) (goodIn_sub (fun _ h => List.mem_append_left _ (List.mem_append_left _ (List.mem_append_left _ (List.mem_append_left _ (List.mem_append_right _ h))))) (by decide +kernel))
set_option maxRecDepth 20000 in
theorem gL_law_X1_imbalance : GoodIn wsL_law (wsV RL 100 RX1 yX1_imbalance wsX1_imbalance) := goodIn_app (goodIn_of _ (by decide +kernel)) ggL_law_X1_imbalance
set_option maxRecDepth 20000 in
theorem ggL_law_X0_isPossible : GoodIn wsL_law wsX0_isPossible := goodIn_ca (goodIn_r _ [192, 193, 178, 179, 2, 180, 15, 16, 162, 163, 164, 165, 28, 194, 195, 196, 197, 198, 199, 200, 201, 202, 203, 204, 205, 206, 207, 208, 209, 19, 210, 211, 212, 550, 551, 552, 553, 554, 555, 556, 557, 558, 559, 560] (by decide +kernel) (by decide +kernel)) (goodIn_sub (fun _ h => List.mem_append_left _ (List.mem_append_left _ (List.mem_append_left _ (List.mem_append_left _ (List.mem_append_right _ h))))) (by decide +kernel))
set_option maxRecDepth 20000 in
theorem gL_law_X0_isPossible : GoodIn wsL_law (wsV RL 101 RX0 yX0_isPossible wsX0_isPossible) := goodIn_app (goodIn_of _ (by decide +kernel)) ggL_law_X0_isPossible
set_option maxRecDepth 20000 in
theorem ggL_law_X1_isPossible : GoodIn wsL_law wsX1_isPossible := goodIn_ca (goodIn_r _ [216, 82, 217, 218, 219, 5, 220, 185, 186, 187, 188, 45, 46, 47, 221, 222, 223, 224, 225, 226, 227, 228, 48, 561, 562, 563, 564, 565, 566, 567, 568, 569, 570, 571, 572, 573] (by decide +kernel) (by decide +kernel)) (goodIn_sub (fun _ h => List.mem_append_left _ (List.mem_append_left _ (List.mem_append_left _ (List.mem_append_left _ (List.mem_append_right _ h))))) (by decide +kernel))
set_option maxRecDepth 20000 in
theorem gL_law_X1_isPossible : GoodIn wsL_law (wsV RL 105 RX1 yX1_isPossible wsX1_isPossible) := goodIn_app (goodIn_of _ (by decide +kernel)) ggL_law_X1_isPossible
set_option maxRecDepth 20000 in
theorem ggL_law_X0_crowdedSet : GoodIn wsL_law wsX0_crowdedSet := goodIn_ca (goodIn_r _ [197, 16, 198, 199, 200, 2, 201, 28, 202, 203, 204, 205, 15, 206, 207, 208, 209, 19, 210, 211, 212, 550, 551, 552, 553, 554, 555, 556, 557, 558, 559, 560] (by decide +kernel) (by decide +kernel)) (goodIn_sub (fun _ h => List.mem_append_left _ (List.mem_append_left _ (List.mem_append_left _ (List.mem_append_left _ (List.mem_append_right _ h))))) (by decide +kernel))
set_option maxRecDepth 20000 in
theorem gL_law_X0_crowdedSet : GoodIn wsL_law (wsV RL 106 RX0 yX0_crowdedSet wsX0_crowdedSet) := goodIn_app (goodIn_of _ (by decide +kernel)) ggL_law_X0_crowdedSet
set_option maxRecDepth 20000 in
theorem ggL_law_X1_crowdedSet : GoodIn wsL_law wsX1_crowdedSet := goodIn_ca (goodIn_r _ [233, 82, 221, 222, 223, 5, 224, 45, 225, 226, 227, 228, 48, 46, 47, 561, 562, 563, 564, 565, 566, 567, 568, 569, 570, 571, 572, 573] (by decide +kernel) (by decide +kernel)) (goodIn_sub (fun _ h => List.mem_append_left _ (List.mem_append_left _ (List.mem_append_left _ (List.mem_append_left _ (List.mem_append_right _ h))))) (by decide +kernel))
set_option maxRecDepth 20000 in
theorem gL_law_X1_crowdedSet : GoodIn wsL_law (wsV RL 109 RX1 yX1_crowdedSet wsX1_crowdedSet) := goodIn_app (goodIn_of _ (by decide +kernel)) ggL_law_X1_crowdedSet
set_option maxRecDepth 20000 in
theorem ggL_law_L_excess : GoodIn wsL_law wsL_excess := goodIn_ca (goodIn_ca (goodIn_r _ [236, 68, 237, 238, 239, 2, 240, 16, 198, 199, 200, 201, 28, 73, 74, 75, 76, 77, 202, 203, 204, 205, 15, 206, 207, 208, 209, 19, 210, 211, 212, 550, 551, 552, 553, 554, 555, 556, 557, 558, 559, 560] (by decide +kernel) (by decide +kernel)) (goodIn_sub (fun _ h => List.mem_append_left _ (List.mem_append_left _ (List.mem_append_left _ (List.mem_append_left _ (List.mem_append_right _ h))))) (by decide +kernel))) (goodIn_sub (fun _ h => List.mem_append_left _ (List.mem_append_left _ (List.mem_append_left _ (List.mem_append_right _ h)))) (by decide +kernel))
set_option maxRecDepth 20000 in
theorem gL_law_L_excess : GoodIn wsL_law (va_wsS RL 110 yL_excess wsL_excess) := goodIn_app (goodIn_of _ (by decide +kernel)) ggL_law_L_excess
set_option maxRecDepth 20000 in
theorem ggL_law_X1_excess : GoodIn wsL_law wsX1_excess := goodIn_ca (goodIn_r _ [244, 45, 82, 83, 84, 5, 85, 225, 226, 227, 228, 48, 46, 47, 561, 562, 563, 564, 565, 566, 567, 568, 569, 570, 571, 572, 573] (by decide +kernel) (by decide +kernel)) (goodIn_sub (fun _ h => List.mem_append_left _ (List.mem_append_left _ (List.mem_append_left _ (List.mem_append_left _ (List.mem_append_right _ h))))) (by decide +kernel))
set_option maxRecDepth 20000 in
theorem gL_law_X1_excess : GoodIn wsL_law (wsV RL 112 RX1 yX1_excess wsX1_excess) := goodIn_app (goodIn_of _ (by decide +kernel)) ggL_law_X1_excess
set_option maxRecDepth 20000 in
theorem ggL_law_L_iterate : GoodIn wsL_law wsL_iterate := goodIn_ca (goodIn_ca (goodIn_r _ [247, 68, 248, 249, 250, 2, 251, 40, 73, 74, 75, 76, 77, 252, 253, 254, 255, 28, 256, 257, 258, 259, 15, 18, 260, 261, 262, 263, 33, 34, 35, 264, 265, 266, 267, 16, 268, 269, 270, 271, 550, 551, 552, 553, 554, 555, 556, 557, 558, 559, 560] (by decide +kernel) (by decide +kernel)) (goodIn_sub (fun _ h => List.mem_append_left _ (List.mem_append_left _ (List.mem_append_left _ (List.mem_append_left _ (List.mem_append_right _ h))))) (by decide +kernel))) (goodIn_sub (fun _ h => List.mem_append_left _ (List.mem_append_left _ (List.mem_append_left _ (List.mem_append_right _ h)))) (by decide +kernel))
set_option maxRecDepth 20000 in
theorem gL_law_L_iterate : GoodIn wsL_law (va_wsS RL 113 yL_iterate wsL_iterate) := goodIn_app (goodIn_of _ (by decide +kernel)) ggL_law_L_iterate
set_option maxRecDepth 20000 in
theorem ggL_law_X1_iterate : GoodIn wsL_law wsX1_iterate := goodIn_ca (goodIn_r _ [275, 82, 63, 83, 84, 5, 85, 276, 277, 278, 279, 45, 280, 281, 282, 283, 46, 49, 284, 285, 286, 287, 288, 289, 290, 291, 47, 292, 293, 294, 295, 561, 562, 563, 564, 565, 566, 567, 568, 569, 570, 571, 572, 573] (by decide +kernel) (by decide +kernel)) (goodIn_sub (fun _ h => List.mem_append_left _ (List.mem_append_left _ (List.mem_append_left _ (List.mem_append_left _ (List.mem_append_right _ h))))) (by decide +kernel))
set_option maxRecDepth 20000 in
theorem gL_law_X1_iterate : GoodIn wsL_law (wsV RL 115 RX1 yX1_iterate wsX1_iterate) := goodIn_app (goodIn_of _ (by decide +kernel)) ggL_law_X1_iterate
set_option maxRecDepth 20000 in
theorem ggL_law_L_fit : GoodIn wsL_law wsL_fit := goodIn_ca (goodIn_ca (goodIn_r _ [298, 68, 299, 300, 301, 2, 302, 303, 304, 73, 74, 75, 76, 77, 305, 306, 307, 308, 28, 15, 16, 260, 261, 262, 263, 18, 33, 34, 35, 309, 310, 311, 268, 269, 270, 271, 252, 253, 254, 255, 40, 256, 257, 258, 259, 264, 265, 266, 267, 550, 551, 552, 553, 554, 555, 556, 557, 558, 559, 560] (by decide +kernel) (by decide +kernel)) (goodIn_sub (fun _ h => List.mem_append_left _ (List.mem_append_left _ (List.mem_append_left _ (List.mem_append_left _ (List.mem_append_right _ h))))) (by decide +kernel))) (goodIn_sub (fun _ h => List.mem_append_left _ (List.mem_append_left _ (List.mem_append_left _ (List.mem_append_right _ h)))) (by decide +kernel))
set_option maxRecDepth 20000 in
theorem gL_law_L_fit : GoodIn wsL_law (va_wsS RL 116 yL_fit wsL_fit) := goodIn_app (goodIn_of _ (by decide +kernel)) ggL_law_L_fit
set_option maxRecDepth 20000 in
theorem ggL_law_X1_fit : GoodIn wsL_law wsX1_fit := goodIn_ca (goodIn_r _ [315, 316, 82, 317, 83, 84, 5, 85, 318, 319, 320, 321, 45, 46, 47, 284, 285, 286, 287, 49, 322, 323, 324, 292, 293, 294, 295, 276, 277, 278, 279, 63, 280, 281, 282, 283, 288, 289, 290, 291, 561, 562, 563, 564, 565, 566, 567, 568, 569, 570, 571, 572, 573] (by decide +kernel) (by decide +kernel)) (goodIn_sub (fun _ h => List.mem_append_left _ (List.mem_append_left _ (List.mem_append_left _ (List.mem_append_left _ (List.mem_append_right _ h))))) (by decide +kernel))
set_option maxRecDepth 20000 in
theorem gL_law_X1_fit : GoodIn wsL_law (wsV RL 118 RX1 yX1_fit wsX1_fit) := goodIn_app (goodIn_of _ (by decide +kernel)) ggL_law_X1_fit
set_option maxRecDepth 20000 in
theorem ggL_law_X0_reset : GoodIn wsL_law wsX0_reset := goodIn_ca (goodIn_r _ [328, 40, 36, 37, 38, 2, 39, 28, 18, 17, 33, 34, 35, 550, 551, 552, 553, 554, 555, 556, 557, 558, 559, 560] (by decide +kernel) (by decide +kernel)) (goodIn_sub (fun _ h => List.mem_append_left _ (List.mem_append_left _ (List.mem_append_left _ (List.mem_append_left _ (List.mem_append_right _ h))))) (by decide +kernel))
set_option maxRecDepth 20000 in
theorem gL_law_X0_reset : GoodIn wsL_law (wsV RL 119 RX0 yX0_reset wsX0_reset) := goodIn_app (goodIn_of _ (by decide +kernel)) ggL_law_X0_reset
set_option maxRecDepth 20000 in
theorem ggL_law_X1_reset : GoodIn wsL_law wsX1_reset := goodIn_ca (goodIn_r _ [332, 82, 63, 59, 60, 61, 5, 62, 49, 48, 561, 562, 563, 564, 565, 566, 567, 568, 569, 570, 571, 572, 573] (by decide +kernel) (by decide +kernel)) (goodIn_sub (fun _ h => List.mem_append_left _ (List.mem_append_left _ (List.mem_append_left _ (List.mem_append_left _ (List.mem_append_right _ h))))) (by decide +kernel))
set_option maxRecDepth 20000 in
theorem gL_law_X1_reset : GoodIn wsL_law (wsV RL 122 RX1 yX1_reset wsX1_reset) := goodIn_app (goodIn_of _ (by decide +kernel)) ggL_law_X1_reset
set_option maxRecDepth 20000 in
theorem ggL_law_X0_rounds : GoodIn wsL_law wsX0_rounds := goodIn_r _ [336, 40, 550, 551, 552, 553, 554, 555, 556, 557, 558, 559, 560] (by decide +kernel) (by decide +kernel)
set_option maxRecDepth 20000 in
theorem gL_law_X0_rounds : GoodIn wsL_law (wsV RL 123 RX0 yX0_rounds wsX0_rounds) := goodIn_app (goodIn_of _ (by decide +kernel)) ggL_law_X0_rounds
set_option maxRecDepth 20000 in
theorem ggL_law_X1_rounds : GoodIn wsL_law wsX1_rounds := goodIn_r _ [340, 82, 63, 561, 562, 563, 564, 565, 566, 567, 568, 569, 570, 571, 572, 573] (by decide +kernel) (by decide +kernel)
set_option maxRecDepth 20000 in
theorem gL_law_X1_rounds : GoodIn wsL_law (wsV RL 126 RX1 yX1_rounds wsX1_rounds) := goodIn_app (goodIn_of _ (by decide +kernel)) ggL_law_X1_rounds
set_option maxRecDepth 20000 in
theorem ggL_law_L_estimate : GoodIn wsL_law wsL_estimate := goodIn_ca (goodIn_ca (goodIn_r _ [343, 101, 344, 345, 346, 2, 347, 18, 110, 111, 112, 113, 114, 115, 28, 33, 34, 35, 550, 551, 552, 553, 554, 555, 556, 557, 558, 559, 560] (by decide +kernel) (by decide +kernel)) (goodIn_sub (fun _ h => List.mem_append_left _ (List.mem_append_left _ (List.mem_append_left _ (List.mem_append_left _ (List.mem_append_right _ h))))) (by decide +kernel))) (goodIn_sub (fun _ h => List.mem_append_left _ (List.mem_append_left _ (List.mem_append_right _ h))) (by decide +kernel))
set_option maxRecDepth 20000 in
theorem gL_law_L_estimate : GoodIn wsL_law (va_wsS RL 127 yL_estimate wsL_estimate) := goodIn_app (goodIn_of _ (by decide +kernel)) ggL_law_L_estimate
set_option maxRecDepth 20000 in
theorem ggL_law_X1_estimate : GoodIn wsL_law wsX1_estimate := goodIn_ca (goodIn_r _ [351, 82, 49, 352, 353, 354, 5, 355, 120, 121, 122, 123, 45, 83, 84, 85, 561, 562, 563, 564, 565, 566, 567, 568, 569, 570, 571, 572, 573] (by decide +kernel) (by decide +kernel)) (goodIn_sub (fun _ h => List.mem_append_left _ (List.mem_append_left _ (List.mem_append_left _ (List.mem_append_left _ (List.mem_append_right _ h))))) (by decide +kernel))
set_option maxRecDepth 20000 in
theorem gL_law_X1_estimate : GoodIn wsL_law (wsV RL 130 RX1 yX1_estimate wsX1_estimate) := goodIn_app (goodIn_of _ (by decide +kernel)) ggL_law_X1_estimate
set_option maxRecDepth 20000 in
theorem ggL_law_L_sum : GoodIn wsL_law wsL_sum := goodIn_ca (goodIn_ca (goodIn_r _ [358, 101, 359, 360, 361, 2, 362, 110, 111, 112, 113, 114, 115, 28, 268, 269, 270, 271, 18, 33, 34, 35, 260, 261, 262, 263, 550, 551, 552, 553, 554, 555, 556, 557, 558, 559, 560] (by decide +kernel) (by decide +kernel)) (goodIn_sub (fun _ h => List.mem_append_left _ (List.mem_append_left _ (List.mem_append_left _ (List.mem_append_left _ (List.mem_append_right _ h))))) (by decide +kernel))) (goodIn_sub (fun _ h => List.mem_append_left _ (List.mem_append_left _ (List.mem_append_right _ h))) (by decide +kernel))
set_option maxRecDepth 20000 in
theorem gL_law_L_sum : GoodIn wsL_law (va_wsS RL 131 yL_sum wsL_sum) := goodIn_app (goodIn_of _ (by decide +kernel)) ggL_law_L_sum
set_option maxRecDepth 20000 in
theorem ggL_law_X1_sum : GoodIn wsL_law wsX1_sum := goodIn_ca (goodIn_r _ [366, 82, 120, 121, 122, 5, 123, 45, 83, 84, 85, 292, 293, 294, 295, 49, 284, 285, 286, 287, 561, 562, 563, 564, 565, 566, 567, 568, 569, 570, 571, 572, 573] (by decide +kernel) (by decide +kernel)) (goodIn_sub (fun _ h => List.mem_append_left _ (List.mem_append_left _ (List.mem_append_left _ (List.mem_append_left _ (List.mem_append_right _ h))))) (by decide +kernel))
set_option maxRecDepth 20000 in
theorem gL_law_X1_sum : GoodIn wsL_law (wsV RL 134 RX1 yX1_sum wsX1_sum) := goodIn_app (goodIn_of _ (by decide +kernel)) ggL_law_X1_sum
set_option maxRecDepth 20000 in
theorem ggL_law_X0_misfit : GoodIn wsL_law wsX0_misfit := goodIn_ca (goodIn_r _ [308, 28, 15, 16, 260, 261, 262, 2, 263, 18, 33, 34, 35, 309, 310, 311, 268, 269, 270, 271, 550, 551, 552, 553, 554, 555, 556, 557, 558, 559, 560] (by decide +kernel) (by decide +kernel)) (goodIn_sub (fun _ h => List.mem_append_left _ (List.mem_append_left _ (List.mem_append_left _ (List.mem_append_left _ (List.mem_append_right _ h))))) (by decide +kernel))
set_option maxRecDepth 20000 in
theorem gL_law_X0_misfit : GoodIn wsL_law (wsV RL 135 RX0 yX0_misfit wsX0_misfit) := goodIn_app (goodIn_of _ (by decide +kernel)) ggL_law_X0_misfit
set_option maxRecDepth 20000 in
theorem ggL_law_X1_misfit : GoodIn wsL_law wsX1_misfit := goodIn_ca (goodIn_r _ [371, 82, 318, 319, 320, 5, 321, 45, 46, 47, 284, 285, 286, 287, 49, 322, 323, 324, 292, 293, 294, 295, 561, 562, 563, 564, 565, 566, 567, 568, 569, 570, 571, 572, 573] (by decide +kernel) (by decide +kernel)) (goodIn_sub (fun _ h => List.mem_append_left _ (List.mem_append_left _ (List.mem_append_left _ (List.mem_append_left _ (List.mem_append_right _ h))))) (by decide +kernel))
set_option maxRecDepth 20000 in
theorem gL_law_X1_misfit : GoodIn wsL_law (wsV RL 139 RX1 yX1_misfit wsX1_misfit) := goodIn_app (goodIn_of _ (by decide +kernel)) ggL_law_X1_misfit
set_option maxRecDepth 20000 in
theorem ggL_law_L_share : GoodIn wsL_law wsL_share := goodIn_ca (goodIn_ca (goodIn_r _ [374, 101, 375, 376, 377, 2, 378, 18, 110, 111, 112, 113, 114, 115, 28, 260, 261, 262, 263, 33, 34, 35, 550, 551, 552, 553, 554, 555, 556, 557, 558, 559, 560] (by decide +kernel) (by decide +kernel)) (goodIn_sub (fun _ h => List.mem_append_left _ (List.mem_append_left _ (List.mem_append_left _ (List.mem_append_left _ (List.mem_append_right _ h))))) (by decide +kernel))) (goodIn_sub (fun _ h => List.mem_append_left _ (List.mem_append_left _ (List.mem_append_right _ h))) (by decide +kernel))
set_option maxRecDepth 20000 in
theorem gL_law_L_share : GoodIn wsL_law (va_wsS RL 140 yL_share wsL_share) := goodIn_app (goodIn_of _ (by decide +kernel)) ggL_law_L_share
set_option maxRecDepth 20000 in
theorem ggL_law_X1_share : GoodIn wsL_law wsX1_share := goodIn_ca (goodIn_r _ [382, 82, 49, 352, 353, 354, 5, 355, 120, 121, 122, 123, 45, 83, 84, 85, 284, 285, 286, 287, 561, 562, 563, 564, 565, 566, 567, 568, 569, 570, 571, 572, 573] (by decide +kernel) (by decide +kernel)) (goodIn_sub (fun _ h => List.mem_append_left _ (List.mem_append_left _ (List.mem_append_left _ (List.mem_append_left _ (List.mem_append_right _ h))))) (by decide +kernel))
set_option maxRecDepth 20000 in
theorem gL_law_X1_share : GoodIn wsL_law (wsV RL 142 RX1 yX1_share wsX1_share) := goodIn_app (goodIn_of _ (by decide +kernel)) ggL_law_X1_share
set_option maxRecDepth 20000 in
theorem ggL_law_L_crossRatio : GoodIn wsL_law wsL_crossRatio := goodIn_ca (goodIn_ca (goodIn_ca (goodIn_r _ [385, 101, 386, 387, 388, 389, 2, 390, 391, 392, 18, 110, 111, 112, 113, 114, 115, 28, 33, 34, 35, 550, 551, 552, 553, 554, 555, 556, 557, 558, 559, 560] (by decide +kernel) (by decide +kernel)) (goodIn_sub (fun _ h => List.mem_append_left _ (List.mem_append_left _ (List.mem_append_left _ (List.mem_append_left _ (List.mem_append_right _ h))))) (by decide +kernel))) (goodIn_sub (fun _ h => List.mem_append_right _ h) (by decide +kernel))) (goodIn_sub (fun _ h => List.mem_append_left _ (List.mem_append_left _ (List.mem_append_right _ h))) (by decide +kernel))
set_option maxRecDepth 20000 in
theorem gL_law_L_crossRatio : GoodIn wsL_law (va_wsS RL 143 yL_crossRatio wsL_crossRatio) := goodIn_app (goodIn_of _ (by decide +kernel)) ggL_law_L_crossRatio
set_option maxRecDepth 20000 in
theorem ggL_law_X1_crossRatio : GoodIn wsL_law wsX1_crossRatio := goodIn_ca (goodIn_r _ [396, 82, 49, 352, 353, 354, 5, 355, 120, 121, 122, 123, 45, 83, 84, 85, 561, 562, 563, 564, 565, 566, 567, 568, 569, 570, 571, 572, 573] (by decide +kernel) (by decide +kernel)) (goodIn_sub (fun _ h => List.mem_append_left _ (List.mem_append_left _ (List.mem_append_left _ (List.mem_append_left _ (List.mem_append_right _ h))))) (by decide +kernel))
set_option maxRecDepth 20000 in
theorem gL_law_X1_crossRatio : GoodIn wsL_law (wsV RL 146 RX1 yX1_crossRatio wsX1_crossRatio) := goodIn_app (goodIn_of _ (by decide +kernel)) ggL_law_X1_crossRatio
set_option maxRecDepth 20000 in
theorem ggL_law_X0_busiestTurn : GoodIn wsL_law wsX0_busiestTurn := goodIn_ca (goodIn_r _ [400, 28, 18, 33, 34, 2, 35, 550, 551, 552, 553, 554, 555, 556, 557, 558, 559, 560] (by decide +kernel) (by decide +kernel)) (goodIn_sub (fun _ h => List.mem_append_left _ (List.mem_append_left _ (List.mem_append_left _ (List.mem_append_left _ (List.mem_append_right _ h))))) (by decide +kernel))
set_option maxRecDepth 20000 in
theorem gL_law_X0_busiestTurn : GoodIn wsL_law (wsV RL 147 RX0 yX0_busiestTurn wsX0_busiestTurn) := goodIn_app (goodIn_of _ (by decide +kernel)) ggL_law_X0_busiestTurn
set_option maxRecDepth 20000 in
theorem ggL_law_X1_busiestTurn : GoodIn wsL_law wsX1_busiestTurn := goodIn_ca (goodIn_r _ [404, 82, 405, 406, 407, 5, 408, 45, 49, 561, 562, 563, 564, 565, 566, 567, 568, 569, 570, 571, 572, 573] (by decide +kernel) (by decide +kernel)) (goodIn_sub (fun _ h => List.mem_append_left _ (List.mem_append_left _ (List.mem_append_left _ (List.mem_append_left _ (List.mem_append_right _ h))))) (by decide +kernel))
set_option maxRecDepth 20000 in
theorem gL_law_X1_busiestTurn : GoodIn wsL_law (wsV RL 150 RX1 yX1_busiestTurn wsX1_busiestTurn) := goodIn_app (goodIn_of _ (by decide +kernel)) ggL_law_X1_busiestTurn
set_option maxRecDepth 20000 in
theorem ggL_law_L_rounded : GoodIn wsL_law wsL_rounded := goodIn_ca (goodIn_ca (goodIn_r _ [411, 101, 412, 413, 414, 2, 415, 20, 110, 111, 112, 113, 114, 115, 28, 416, 417, 418, 419, 18, 15, 23, 260, 261, 262, 263, 33, 34, 35, 420, 421, 422, 423, 424, 425, 426, 427, 428, 429, 430, 431, 432, 433, 434, 435, 436, 19, 210, 211, 212, 550, 551, 552, 553, 554, 555, 556, 557, 558, 559, 560] (by decide +kernel) (by decide +kernel)) (goodIn_sub (fun _ h => List.mem_append_left _ (List.mem_append_left _ (List.mem_append_left _ (List.mem_append_left _ (List.mem_append_right _ h))))) (by decide +kernel))) (goodIn_sub (fun _ h => List.mem_append_left _ (List.mem_append_left _ (List.mem_append_right _ h))) (by decide +kernel))
set_option maxRecDepth 20000 in
theorem gL_law_L_rounded : GoodIn wsL_law (va_wsS RL 151 yL_rounded wsL_rounded) := goodIn_app (goodIn_of _ (by decide +kernel)) ggL_law_L_rounded
set_option maxRecDepth 20000 in
theorem ggL_law_X1_rounded : GoodIn wsL_law wsX1_rounded := goodIn_ca (goodIn_r _ [440, 82, 50, 352, 353, 354, 5, 355, 120, 121, 122, 123, 45, 83, 84, 85, 441, 442, 443, 444, 49, 46, 51, 445, 284, 285, 286, 287, 446, 447, 448, 449, 48, 561, 562, 563, 564, 565, 566, 567, 568, 569, 570, 571, 572, 573] (by decide +kernel) (by decide +kernel)) (goodIn_sub (fun _ h => List.mem_append_left _ (List.mem_append_left _ (List.mem_append_left _ (List.mem_append_left _ (List.mem_append_right _ h))))) (by decide +kernel))
set_option maxRecDepth 20000 in
theorem gL_law_X1_rounded : GoodIn wsL_law (wsV RL 153 RX1 yX1_rounded wsX1_rounded) := goodIn_app (goodIn_of _ (by decide +kernel)) ggL_law_X1_rounded
set_option maxRecDepth 20000 in
theorem ggL_law_X0_roundedMisfit : GoodIn wsL_law wsX0_roundedMisfit := goodIn_ca (goodIn_r _ [453, 454, 455, 456, 2, 457, 28, 416, 417, 418, 419, 18, 15, 20, 23, 260, 261, 262, 263, 33, 34, 35, 420, 421, 422, 423, 424, 425, 426, 427, 428, 429, 430, 431, 432, 433, 434, 435, 436, 19, 210, 211, 212, 458, 459, 460, 461, 16, 462, 463, 464, 550, 551, 552, 553, 554, 555, 556, 557, 558, 559, 560] (by decide +kernel) (by decide +kernel)) (goodIn_sub (fun _ h => List.mem_append_left _ (List.mem_append_left _ (List.mem_append_left _ (List.mem_append_left _ (List.mem_append_right _ h))))) (by decide +kernel))
set_option maxRecDepth 20000 in
theorem gL_law_X0_roundedMisfit : GoodIn wsL_law (wsV RL 154 RX0 yX0_roundedMisfit wsX0_roundedMisfit) := goodIn_app (goodIn_of _ (by decide +kernel)) ggL_law_X0_roundedMisfit
set_option maxRecDepth 20000 in
theorem ggL_law_X1_roundedMisfit : GoodIn wsL_law wsX1_roundedMisfit := goodIn_ca (goodIn_r _ [468, 82, 469, 470, 471, 5, 472, 45, 47, 50, 473, 474, 475, 476, 441, 442, 443, 444, 49, 46, 51, 445, 284, 285, 286, 287, 446, 447, 448, 449, 48, 561, 562, 563, 564, 565, 566, 567, 568, 569, 570, 571, 572, 573] (by decide +kernel) (by decide +kernel)) (goodIn_sub (fun _ h => List.mem_append_left _ (List.mem_append_left _ (List.mem_append_left _ (List.mem_append_left _ (List.mem_append_right _ h))))) (by decide +kernel))
set_option maxRecDepth 20000 in
theorem gL_law_X1_roundedMisfit : GoodIn wsL_law (wsV RL 157 RX1 yX1_roundedMisfit wsX1_roundedMisfit) := goodIn_app (goodIn_of _ (by decide +kernel)) ggL_law_X1_roundedMisfit
set_option maxRecDepth 20000 in
theorem ggL_law_L_possible : GoodIn wsL_law wsL_possible := goodIn_ca (goodIn_ca (goodIn_r _ [479, 101, 480, 481, 482, 2, 483, 21, 110, 111, 112, 113, 114, 115, 28, 484, 485, 486, 487, 16, 22, 488, 489, 490, 491, 15, 492, 190, 191, 192, 193, 178, 179, 180, 162, 163, 164, 165, 194, 195, 196, 197, 198, 199, 200, 201, 202, 203, 204, 205, 206, 207, 208, 209, 19, 210, 211, 212, 493, 494, 495, 496, 424, 425, 426, 427, 433, 434, 435, 436, 33, 34, 35, 550, 551, 552, 553, 554, 555, 556, 557, 558, 559, 560] (by decide +kernel) (by decide +kernel)) (goodIn_sub (fun _ h => List.mem_append_left _ (List.mem_append_left _ (List.mem_append_left _ (List.mem_append_left _ (List.mem_append_right _ h))))) (by decide +kernel))) (goodIn_sub (fun _ h => List.mem_append_left _ (List.mem_append_left _ (List.mem_append_right _ h))) (by decide +kernel))
set_option maxRecDepth 20000 in
theorem gL_law_L_possible : GoodIn wsL_law (va_wsS RL 158 yL_possible wsL_possible) := goodIn_app (goodIn_of _ (by decide +kernel)) ggL_law_L_possible
set_option maxRecDepth 20000 in
theorem ggL_law_X1_possible : GoodIn wsL_law wsX1_possible := goodIn_ca (goodIn_r _ [500, 82, 352, 353, 354, 5, 355, 120, 121, 122, 123, 45, 83, 84, 85, 501, 502, 503, 504, 52, 217, 218, 219, 220, 185, 186, 187, 188, 46, 47, 221, 222, 223, 224, 225, 226, 227, 228, 48, 505, 506, 507, 508, 53, 54, 509, 510, 511, 512, 513, 514, 515, 516, 561, 562, 563, 564, 565, 566, 567, 568, 569, 570, 571, 572, 573] (by decide +kernel) (by decide +kernel)) (goodIn_sub (fun _ h => List.mem_append_left _ (List.mem_append_left _ (List.mem_append_left _ (List.mem_append_left _ (List.mem_append_right _ h))))) (by decide +kernel))
set_option maxRecDepth 20000 in
theorem gL_law_X1_possible : GoodIn wsL_law (wsV RL 160 RX1 yX1_possible wsX1_possible) := goodIn_app (goodIn_of _ (by decide +kernel)) ggL_law_X1_possible
set_option maxRecDepth 20000 in
theorem ggL_law_X0_digest : GoodIn wsL_law wsX0_digest := goodIn_ca (goodIn_r _ [520, 521, 28, 15, 16, 40, 454, 455, 456, 2, 457, 416, 417, 418, 419, 18, 20, 23, 260, 261, 262, 263, 33, 34, 35, 420, 421, 422, 423, 424, 425, 426, 427, 428, 429, 430, 431, 432, 433, 434, 435, 436, 19, 210, 211, 212, 484, 485, 486, 487, 22, 488, 489, 490, 491, 21, 492, 190, 191, 192, 193, 178, 179, 180, 162, 163, 164, 165, 194, 195, 196, 197, 198, 199, 200, 201, 202, 203, 204, 205, 206, 207, 208, 209, 493, 494, 495, 496, 522, 523, 524, 525, 526, 527, 528, 529, 17, 530, 531, 532, 304, 305, 306, 307, 308, 309, 310, 311, 268, 269, 270, 271, 533, 398, 399, 400, 458, 459, 460, 461, 462, 463, 464, 550, 551, 552, 553, 554, 555, 556, 557, 558, 559, 560] (by decide +kernel) (by decide +kernel)) (goodIn_sub (fun _ h => List.mem_append_left _ (List.mem_append_left _ (List.mem_append_left _ (List.mem_append_left _ (List.mem_append_right _ h))))) (by decide +kernel))
set_option maxRecDepth 20000 in
theorem gL_law_X0_digest : GoodIn wsL_law (wsV RL 161 RX0 yX0_digest wsX0_digest) := goodIn_app (goodIn_of _ (by decide +kernel)) ggL_law_X0_digest
set_option maxRecDepth 20000 in
theorem ggL_law_X1_digest : GoodIn wsL_law wsX1_digest := goodIn_ca (goodIn_r _ [537, 82, 538, 539, 45, 46, 47, 63, 317, 540, 541, 542, 5, 543, 544, 545, 546, 547, 548, 48, 49, 50, 52, 549, 473, 474, 475, 476, 441, 442, 443, 444, 51, 445, 284, 285, 286, 287, 446, 447, 448, 449, 217, 218, 219, 220, 185, 186, 187, 188, 221, 222, 223, 224, 225, 226, 227, 228, 505, 506, 507, 508, 53, 54, 509, 510, 511, 512, 513, 514, 515, 516, 318, 319, 320, 321, 322, 323, 324, 292, 293, 294, 295, 405, 406, 407, 408, 469, 470, 471, 472, 561, 562, 563, 564, 565, 566, 567, 568, 569, 570, 571, 572, 573] (by decide +kernel) (by decide +kernel)) (goodIn_sub (fun _ h => List.mem_append_left _ (List.mem_append_left _ (List.mem_append_left _ (List.mem_append_left _ (List.mem_append_right _ h))))) (by decide +kernel))
set_option maxRecDepth 20000 in
theorem gL_law_X1_digest : GoodIn wsL_law (wsV RL 165 RX1 yX1_digest wsX1_digest) := goodIn_app (goodIn_of _ (by decide +kernel)) ggL_law_X1_digest
