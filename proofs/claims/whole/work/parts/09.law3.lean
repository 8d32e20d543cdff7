set_option maxRecDepth 20000 in
theorem ggL_law_X5_not : GoodIn wsL_law wsX5_not := goodIn_r _ [350, 112, 78, 79, 351, 352, 353, 5, 354, 335, 331, 332, 333, 334, 75, 76, 77, 118, 119, 120, 121, 739, 740, 741, 742, 743, 744, 745, 746, 747, 748, 749, 750, 751, 752, 753] (by decide +kernel) (by decide +kernel)
set_option maxRecDepth 20000 in
theorem gL_law_X5_not : GoodIn wsL_law (wsV RL 156 RX5 yX5_not wsX5_not) := goodIn_app (goodIn_of _ (by decide +kernel)) ggL_law_X5_not
set_option maxRecDepth 20000 in
theorem ggL_law_L_both : GoodIn wsL_law wsL_both := goodIn_ca (goodIn_ca (goodIn_r _ [357, 129, 90, 358, 359, 360, 2, 361, 21, 343, 344, 345, 346, 139, 140, 310, 306, 307, 308, 309, 95, 96, 311, 312, 313, 20, 314, 51, 44, 45, 46, 47, 48, 49, 50, 315, 316, 317, 318, 319, 320, 321, 322, 323, 324, 325, 326, 735, 736, 737, 738, 758, 759, 760, 761, 762, 763, 764, 765] (by decide +kernel) (by decide +kernel)) (goodIn_sub (fun _ h => List.mem_append_right _ h) (by decide +kernel))) (goodIn_sub (fun _ h => List.mem_append_left _ (List.mem_append_left _ (List.mem_append_right _ h))) (by decide +kernel))
set_option maxRecDepth 20000 in
theorem gL_law_L_both : GoodIn wsL_law (va_wsS RL 157 yL_both wsL_both) := goodIn_app (goodIn_of _ (by decide +kernel)) ggL_law_L_both
set_option maxRecDepth 20000 in
theorem ggL_law_X5_both : GoodIn wsL_law wsX5_both := goodIn_r _ [365, 112, 78, 366, 320, 321, 322, 79, 351, 352, 353, 5, 354, 335, 331, 332, 333, 334, 75, 76, 77, 118, 119, 120, 121, 739, 740, 741, 742, 743, 744, 745, 746, 747, 748, 749, 750, 751, 752, 753] (by decide +kernel) (by decide +kernel)
set_option maxRecDepth 20000 in
theorem gL_law_X5_both : GoodIn wsL_law (wsV RL 159 RX5 yX5_both wsX5_both) := goodIn_app (goodIn_of _ (by decide +kernel)) ggL_law_X5_both
set_option maxRecDepth 20000 in
theorem ggL_law_L_knows : GoodIn wsL_law wsL_knows := goodIn_ca (goodIn_ca (goodIn_r _ [369, 129, 90, 370, 371, 372, 2, 373, 21, 157, 158, 159, 160, 139, 140, 343, 344, 345, 346, 310, 306, 307, 308, 309, 95, 96, 161, 162, 163, 311, 312, 313, 20, 314, 51, 44, 45, 46, 47, 48, 49, 50, 315, 316, 317, 318, 319, 320, 321, 322, 323, 324, 325, 326, 735, 736, 737, 738, 758, 759, 760, 761, 762, 763, 764, 765] (by decide +kernel) (by decide +kernel)) (goodIn_sub (fun _ h => List.mem_append_right _ h) (by decide +kernel))) (goodIn_sub (fun _ h => List.mem_append_left _ (List.mem_append_left _ (List.mem_append_right _ h))) (by decide +kernel))
set_option maxRecDepth 20000 in
theorem gL_law_L_knows : GoodIn wsL_law (va_wsS RL 160 yL_knows wsL_knows) := goodIn_app (goodIn_of _ (by decide +kernel)) ggL_law_L_knows
set_option maxRecDepth 20000 in
theorem ggL_law_X5_knows : GoodIn wsL_law wsX5_knows := goodIn_r _ [377, 112, 78, 79, 171, 172, 5, 173, 351, 352, 353, 354, 335, 331, 332, 333, 334, 75, 76, 77, 118, 119, 120, 121, 739, 740, 741, 742, 743, 744, 745, 746, 747, 748, 749, 750, 751, 752, 753] (by decide +kernel) (by decide +kernel)
set_option maxRecDepth 20000 in
theorem gL_law_X5_knows : GoodIn wsL_law (wsV RL 162 RX5 yX5_knows wsX5_knows) := goodIn_app (goodIn_of _ (by decide +kernel)) ggL_law_X5_knows
set_option maxRecDepth 20000 in
theorem ggL_law_L_ofGroup : GoodIn wsL_law wsL_ofGroup := goodIn_ca (goodIn_ca (goodIn_ca (goodIn_r _ [380, 129, 89, 90, 381, 382, 383, 2, 384, 21, 343, 344, 345, 346, 139, 140, 310, 385, 386, 387, 388, 102, 103, 306, 307, 308, 309, 95, 96, 311, 312, 313, 20, 314, 51, 44, 45, 46, 47, 48, 49, 50, 315, 316, 317, 318, 319, 320, 321, 322, 323, 324, 325, 326, 735, 736, 737, 738, 758, 759, 760, 761, 762, 763, 764, 765] (by decide +kernel) (by decide +kernel)) (goodIn_sub (fun _ h => List.mem_append_right _ h) (by decide +kernel))) (goodIn_sub (fun _ h => List.mem_append_left _ (List.mem_append_right _ h)) (by decide +kernel))) (goodIn_sub (fun _ h => List.mem_append_left _ (List.mem_append_left _ (List.mem_append_right _ h))) (by decide +kernel))
set_option maxRecDepth 20000 in
theorem gL_law_L_ofGroup : GoodIn wsL_law (va_wsS RL 163 yL_ofGroup wsL_ofGroup) := goodIn_app (goodIn_of _ (by decide +kernel)) ggL_law_L_ofGroup
set_option maxRecDepth 20000 in
theorem ggL_law_X5_ofGroup : GoodIn wsL_law wsX5_ofGroup := goodIn_r _ [392, 112, 78, 79, 351, 352, 353, 5, 354, 335, 118, 119, 120, 121, 393, 394, 395, 331, 332, 333, 334, 75, 76, 77, 739, 740, 741, 742, 743, 744, 745, 746, 747, 748, 749, 750, 751, 752, 753] (by decide +kernel) (by decide +kernel)
set_option maxRecDepth 20000 in
theorem gL_law_X5_ofGroup : GoodIn wsL_law (wsV RL 166 RX5 yX5_ofGroup wsX5_ofGroup) := goodIn_app (goodIn_of _ (by decide +kernel)) ggL_law_X5_ofGroup
set_option maxRecDepth 20000 in
theorem ggL_law_L_after : GoodIn wsL_law wsL_after := goodIn_ca (goodIn_ca (goodIn_ca (goodIn_r _ [398, 129, 89, 90, 399, 400, 401, 2, 402, 102, 103, 21, 403, 404, 320, 321, 322, 343, 344, 345, 346, 139, 140, 310, 306, 307, 308, 309, 95, 96, 311, 312, 313, 20, 314, 51, 44, 45, 46, 47, 48, 49, 50, 315, 316, 317, 318, 319, 323, 324, 325, 326, 735, 736, 737, 738, 758, 759, 760, 761, 762, 763, 764, 765] (by decide +kernel) (by decide +kernel)) (goodIn_sub (fun _ h => List.mem_append_left _ (List.mem_append_right _ h)) (by decide +kernel))) (goodIn_sub (fun _ h => List.mem_append_right _ h) (by decide +kernel))) (goodIn_sub (fun _ h => List.mem_append_left _ (List.mem_append_left _ (List.mem_append_right _ h))) (by decide +kernel))
set_option maxRecDepth 20000 in
theorem gL_law_L_after : GoodIn wsL_law (va_wsS RL 167 yL_after wsL_after) := goodIn_app (goodIn_of _ (by decide +kernel)) ggL_law_L_after
set_option maxRecDepth 20000 in
theorem ggL_law_X5_after : GoodIn wsL_law wsX5_after := goodIn_r _ [408, 112, 79, 366, 320, 321, 322, 78, 351, 352, 353, 5, 354, 335, 118, 119, 120, 121, 331, 332, 333, 334, 75, 76, 77, 739, 740, 741, 742, 743, 744, 745, 746, 747, 748, 749, 750, 751, 752, 753] (by decide +kernel) (by decide +kernel)
set_option maxRecDepth 20000 in
theorem gL_law_X5_after : GoodIn wsL_law (wsV RL 169 RX5 yX5_after wsX5_after) := goodIn_app (goodIn_of _ (by decide +kernel)) ggL_law_X5_after
set_option maxRecDepth 20000 in
theorem ggL_law_X4_formulaCount : GoodIn wsL_law wsX4_formulaCount := goodIn_r _ [412, 21, 310, 735, 736, 737, 738, 758, 759, 760, 761, 762, 763, 764, 765] (by decide +kernel) (by decide +kernel)
set_option maxRecDepth 20000 in
theorem gL_law_X4_formulaCount : GoodIn wsL_law (wsV RL 170 RX4 yX4_formulaCount wsX4_formulaCount) := goodIn_app (goodIn_of _ (by decide +kernel)) ggL_law_X4_formulaCount
set_option maxRecDepth 20000 in
theorem ggL_law_X5_formulaCount : GoodIn wsL_law wsX5_formulaCount := goodIn_r _ [416, 112, 335, 739, 740, 741, 742, 743, 744, 745, 746, 747, 748, 749, 750, 751, 752, 753] (by decide +kernel) (by decide +kernel)
set_option maxRecDepth 20000 in
theorem gL_law_X5_formulaCount : GoodIn wsL_law (wsV RL 173 RX5 yX5_formulaCount wsX5_formulaCount) := goodIn_app (goodIn_of _ (by decide +kernel)) ggL_law_X5_formulaCount
set_option maxRecDepth 20000 in
theorem ggL_law_L_depth : GoodIn wsL_law wsL_depth := goodIn_ca (goodIn_r _ [419, 129, 420, 421, 422, 2, 423, 21, 424, 343, 344, 345, 346, 139, 140, 310, 735, 736, 737, 738, 758, 759, 760, 761, 762, 763, 764, 765] (by decide +kernel) (by decide +kernel)) (goodIn_sub (fun _ h => List.mem_append_right _ h) (by decide +kernel))
set_option maxRecDepth 20000 in
theorem gL_law_L_depth : GoodIn wsL_law (va_wsS RL 174 yL_depth wsL_depth) := goodIn_app (goodIn_of _ (by decide +kernel)) ggL_law_L_depth
