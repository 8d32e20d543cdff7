set_option maxRecDepth 20000 in
theorem ggL_law_X5_depth : GoodIn wsL_law wsX5_depth := goodIn_r _ [428, 112, 78, 351, 352, 353, 5, 354, 335, 118, 119, 120, 121, 739, 740, 741, 742, 743, 744, 745, 746, 747, 748, 749, 750, 751, 752, 753] (by decide +kernel) (by decide +kernel)
set_option maxRecDepth 20000 in
theorem gL_law_X5_depth : GoodIn wsL_law (wsV RL 176 RX5 yX5_depth wsX5_depth) := goodIn_app (goodIn_of _ (by decide +kernel)) ggL_law_X5_depth
set_option maxRecDepth 20000 in
theorem ggL_law_L_nesting : GoodIn wsL_law wsL_nesting := goodIn_ca (goodIn_r _ [431, 129, 432, 433, 434, 2, 435, 21, 403, 343, 344, 345, 346, 139, 140, 310, 735, 736, 737, 738, 758, 759, 760, 761, 762, 763, 764, 765] (by decide +kernel) (by decide +kernel)) (goodIn_sub (fun _ h => List.mem_append_right _ h) (by decide +kernel))
set_option maxRecDepth 20000 in
theorem gL_law_L_nesting : GoodIn wsL_law (va_wsS RL 177 yL_nesting wsL_nesting) := goodIn_app (goodIn_of _ (by decide +kernel)) ggL_law_L_nesting
set_option maxRecDepth 20000 in
theorem ggL_law_X5_nesting : GoodIn wsL_law wsX5_nesting := goodIn_r _ [439, 112, 79, 351, 352, 353, 5, 354, 335, 118, 119, 120, 121, 739, 740, 741, 742, 743, 744, 745, 746, 747, 748, 749, 750, 751, 752, 753] (by decide +kernel) (by decide +kernel)
set_option maxRecDepth 20000 in
theorem gL_law_X5_nesting : GoodIn wsL_law (wsV RL 179 RX5 yX5_nesting wsX5_nesting) := goodIn_app (goodIn_of _ (by decide +kernel)) ggL_law_X5_nesting
set_option maxRecDepth 20000 in
theorem ggL_law_L_where : GoodIn wsL_law wsL_where := goodIn_ca (goodIn_r _ [442, 129, 443, 444, 445, 2, 446, 25, 343, 344, 345, 346, 139, 140, 21, 310, 447, 448, 449, 24, 450, 56, 451, 185, 186, 16, 187, 38, 452, 453, 454, 455, 57, 456, 59, 457, 458, 459, 460, 461, 462, 463, 464, 465, 466, 467, 468, 35, 165, 166, 162, 163, 469, 470, 471, 472, 473, 474, 475, 476, 477, 37, 478, 479, 480, 481, 482, 483, 484, 485, 486, 735, 736, 737, 738, 758, 759, 760, 761, 762, 763, 764, 765, 766, 767, 768, 754, 755, 756, 757] (by decide +kernel) (by decide +kernel)) (goodIn_sub (fun _ h => List.mem_append_right _ h) (by decide +kernel))
set_option maxRecDepth 20000 in
theorem gL_law_L_where : GoodIn wsL_law (va_wsS RL 180 yL_where wsL_where) := goodIn_app (goodIn_of _ (by decide +kernel)) ggL_law_L_where
set_option maxRecDepth 20000 in
theorem ggL_law_X5_where : GoodIn wsL_law wsX5_where := goodIn_r _ [490, 112, 351, 352, 353, 5, 354, 335, 491, 492, 493, 494, 495, 496, 497, 498, 113, 499, 500, 501, 502, 80, 82, 503, 504, 505, 506, 83, 76, 77, 75, 74, 73, 174, 175, 176, 507, 508, 509, 510, 511, 512, 513, 514, 515, 516, 517, 518, 118, 119, 120, 121, 739, 740, 741, 742, 743, 744, 745, 746, 747, 748, 749, 750, 751, 752, 753] (by decide +kernel) (by decide +kernel)
set_option maxRecDepth 20000 in
theorem gL_law_X5_where : GoodIn wsL_law (wsV RL 182 RX5 yX5_where wsX5_where) := goodIn_app (goodIn_of _ (by decide +kernel)) ggL_law_X5_where
set_option maxRecDepth 20000 in
theorem ggL_law_L_holds : GoodIn wsL_law wsL_holds := goodIn_ca (goodIn_ca (goodIn_r _ [521, 129, 90, 522, 523, 524, 2, 525, 25, 17, 211, 343, 344, 345, 346, 139, 140, 21, 310, 223, 224, 225, 226, 95, 96, 97, 447, 448, 449, 24, 450, 56, 451, 185, 186, 16, 187, 38, 452, 453, 454, 455, 57, 456, 59, 457, 458, 459, 460, 461, 462, 463, 464, 465, 466, 467, 468, 35, 165, 166, 162, 163, 469, 470, 471, 472, 473, 474, 475, 476, 477, 37, 478, 479, 480, 481, 482, 483, 484, 485, 486, 164, 735, 736, 737, 738, 754, 755, 756, 757, 758, 759, 760, 761, 762, 763, 764, 765, 766, 767, 768] (by decide +kernel) (by decide +kernel)) (goodIn_sub (fun _ h => List.mem_append_right _ h) (by decide +kernel))) (goodIn_sub (fun _ h => List.mem_append_left _ (List.mem_append_left _ (List.mem_append_right _ h))) (by decide +kernel))
set_option maxRecDepth 20000 in
theorem gL_law_L_holds : GoodIn wsL_law (va_wsS RL 183 yL_holds wsL_holds) := goodIn_app (goodIn_of _ (by decide +kernel)) ggL_law_L_holds
set_option maxRecDepth 20000 in
theorem ggL_law_X5_holds : GoodIn wsL_law wsX5_holds := goodIn_r _ [529, 113, 112, 114, 351, 352, 353, 5, 354, 335, 491, 492, 493, 494, 495, 496, 497, 498, 499, 500, 501, 502, 80, 82, 503, 504, 505, 506, 83, 76, 77, 75, 74, 73, 174, 175, 176, 507, 508, 509, 510, 511, 512, 513, 514, 515, 516, 517, 518, 739, 740, 741, 742, 743, 744, 745, 746, 747, 748, 749, 750, 751, 752, 753] (by decide +kernel) (by decide +kernel)
set_option maxRecDepth 20000 in
theorem gL_law_X5_holds : GoodIn wsL_law (wsV RL 185 RX5 yX5_holds wsX5_holds) := goodIn_app (goodIn_of _ (by decide +kernel)) ggL_law_X5_holds
set_option maxRecDepth 20000 in
theorem ggL_law_L_share : GoodIn wsL_law wsL_share := goodIn_ca (goodIn_r _ [532, 129, 533, 534, 535, 2, 536, 17, 97, 25, 343, 344, 345, 346, 139, 140, 21, 310, 447, 448, 449, 24, 450, 56, 451, 185, 186, 16, 187, 38, 452, 453, 454, 455, 57, 456, 59, 457, 458, 459, 460, 461, 462, 463, 464, 465, 466, 467, 468, 35, 165, 166, 162, 163, 469, 470, 471, 472, 473, 474, 475, 476, 477, 37, 478, 479, 480, 481, 482, 483, 484, 485, 486, 537, 193, 194, 195, 196, 197, 198, 735, 736, 737, 738, 754, 755, 756, 757, 758, 759, 760, 761, 762, 763, 764, 765, 766, 767, 768] (by decide +kernel) (by decide +kernel)) (goodIn_sub (fun _ h => List.mem_append_right _ h) (by decide +kernel))
set_option maxRecDepth 20000 in
theorem gL_law_L_share : GoodIn wsL_law (va_wsS RL 186 yL_share wsL_share) := goodIn_app (goodIn_of _ (by decide +kernel)) ggL_law_L_share
set_option maxRecDepth 20000 in
theorem ggL_law_X5_share : GoodIn wsL_law wsX5_share := goodIn_r _ [541, 112, 113, 351, 352, 353, 5, 354, 335, 491, 492, 493, 494, 495, 496, 497, 498, 499, 500, 501, 502, 80, 82, 503, 504, 505, 506, 83, 76, 77, 75, 74, 73, 174, 175, 176, 507, 508, 509, 510, 511, 512, 513, 514, 515, 516, 517, 518, 203, 193, 194, 195, 196, 197, 198, 739, 740, 741, 742, 743, 744, 745, 746, 747, 748, 749, 750, 751, 752, 753] (by decide +kernel) (by decide +kernel)
set_option maxRecDepth 20000 in
theorem gL_law_X5_share : GoodIn wsL_law (wsV RL 189 RX5 yX5_share wsX5_share) := goodIn_app (goodIn_of _ (by decide +kernel)) ggL_law_X5_share
set_option maxRecDepth 20000 in
theorem ggL_law_L_decided : GoodIn wsL_law wsL_decided := goodIn_ca (goodIn_ca (goodIn_r _ [544, 129, 90, 545, 546, 547, 2, 548, 17, 156, 211, 157, 158, 159, 160, 139, 140, 223, 224, 225, 226, 95, 96, 97, 549, 550, 551, 16, 552, 38, 35, 165, 166, 735, 736, 737, 738, 754, 755, 756, 757] (by decide +kernel) (by decide +kernel)) (goodIn_sub (fun _ h => List.mem_append_right _ h) (by decide +kernel))) (goodIn_sub (fun _ h => List.mem_append_left _ (List.mem_append_left _ (List.mem_append_right _ h))) (by decide +kernel))
set_option maxRecDepth 20000 in
theorem gL_law_L_decided : GoodIn wsL_law (va_wsS RL 190 yL_decided wsL_decided) := goodIn_app (goodIn_of _ (by decide +kernel)) ggL_law_L_decided
