set_option maxRecDepth 20000 in
theorem ggL_law_X4_init : GoodIn wsL_law wsX4_init := goodIn_r _ [10, 11, 12, 13, 14, 15, 16, 17, 18, 19, 20, 21, 22, 23, 24, 25, 26, 27, 28, 29, 30, 31, 32, 33, 34, 35, 36, 37, 38, 39, 40, 41, 42, 43, 44, 45, 46, 47, 48, 49, 6, 50, 51, 52, 53, 54, 55, 56, 57, 58, 59, 60, 61, 62, 63, 64, 65, 66, 67, 68, 754, 755, 756, 757, 735, 736, 737, 738, 758, 759, 760, 761, 762, 763, 764, 765, 766, 767, 768, 769, 770, 771, 772] (by decide +kernel) (by decide +kernel)
set_option maxRecDepth 20000 in
theorem gL_law_X4_init : GoodIn wsL_law (wsX4_init) := ggL_law_X4_init
set_option maxRecDepth 20000 in
theorem ggL_law_X5_init : GoodIn wsL_law wsX5_init := goodIn_r _ [71, 72, 12, 13, 34, 73, 74, 75, 76, 77, 78, 79, 80, 81, 82, 83, 84, 739, 740, 741, 742, 743, 744, 745, 746, 747, 748, 749, 750, 751, 752, 753] (by decide +kernel) (by decide +kernel)
set_option maxRecDepth 20000 in
theorem gL_law_X5_init : GoodIn wsL_law (wsX5_init) := ggL_law_X5_init
set_option maxRecDepth 20000 in
theorem ggL_law_L_addWorld : GoodIn wsL_law wsL_addWorld := goodIn_ca (goodIn_ca (goodIn_r _ [88, 89, 90, 91, 92, 93, 2, 94, 95, 96, 17, 97, 98, 99, 100, 101, 102, 103, 104, 105, 106, 16, 107, 38, 35, 735, 736, 737, 738, 754, 755, 756, 757] (by decide +kernel) (by decide +kernel)) (goodIn_sub (fun _ h => List.mem_append_left _ (List.mem_append_left _ (List.mem_append_right _ h))) (by decide +kernel))) (goodIn_sub (fun _ h => List.mem_append_left _ (List.mem_append_right _ h)) (by decide +kernel))
set_option maxRecDepth 20000 in
theorem gL_law_L_addWorld : GoodIn wsL_law (va_wsS RL 108 yL_addWorld wsL_addWorld) := goodIn_app (goodIn_of _ (by decide +kernel)) ggL_law_L_addWorld
set_option maxRecDepth 20000 in
theorem ggL_law_X5_addWorld : GoodIn wsL_law wsX5_addWorld := goodIn_r _ [111, 112, 113, 73, 74, 114, 115, 116, 5, 117, 118, 119, 120, 121, 739, 740, 741, 742, 743, 744, 745, 746, 747, 748, 749, 750, 751, 752, 753] (by decide +kernel) (by decide +kernel)
set_option maxRecDepth 20000 in
theorem gL_law_X5_addWorld : GoodIn wsL_law (wsV RL 113 RX5 yX5_addWorld wsX5_addWorld) := goodIn_app (goodIn_of _ (by decide +kernel)) ggL_law_X5_addWorld
set_option maxRecDepth 20000 in
theorem ggL_law_X5_thrown : GoodIn wsL_law wsX5_thrown := goodIn_r _ [125, 112, 739, 740, 741, 742, 743, 744, 745, 746, 747, 748, 749, 750, 751, 752, 753] (by decide +kernel) (by decide +kernel)
set_option maxRecDepth 20000 in
theorem gL_law_X5_thrown : GoodIn wsL_law (wsV RL 114 RX5 yX5_thrown wsX5_thrown) := goodIn_app (goodIn_of _ (by decide +kernel)) ggL_law_X5_thrown
set_option maxRecDepth 20000 in
theorem ggL_law_L_setAtoms : GoodIn wsL_law wsL_setAtoms := goodIn_ca (goodIn_ca (goodIn_r _ [128, 129, 89, 130, 131, 132, 2, 133, 17, 134, 135, 136, 137, 138, 139, 140, 97, 98, 99, 100, 101, 102, 103, 735, 736, 737, 738, 754, 755, 756, 757] (by decide +kernel) (by decide +kernel)) (goodIn_sub (fun _ h => List.mem_append_right _ h) (by decide +kernel))) (goodIn_sub (fun _ h => List.mem_append_left _ (List.mem_append_right _ h)) (by decide +kernel))
set_option maxRecDepth 20000 in
theorem gL_law_L_setAtoms : GoodIn wsL_law (va_wsS RL 117 yL_setAtoms wsL_setAtoms) := goodIn_app (goodIn_of _ (by decide +kernel)) ggL_law_L_setAtoms
set_option maxRecDepth 20000 in
theorem ggL_law_X5_setAtoms : GoodIn wsL_law wsX5_setAtoms := goodIn_r _ [144, 112, 73, 145, 146, 147, 5, 148, 113, 118, 119, 120, 121, 115, 116, 117, 739, 740, 741, 742, 743, 744, 745, 746, 747, 748, 749, 750, 751, 752, 753] (by decide +kernel) (by decide +kernel)
set_option maxRecDepth 20000 in
theorem gL_law_X5_setAtoms : GoodIn wsL_law (wsV RL 120 RX5 yX5_setAtoms wsX5_setAtoms) := goodIn_app (goodIn_of _ (by decide +kernel)) ggL_law_X5_setAtoms
set_option maxRecDepth 20000 in
theorem ggL_law_L_connect : GoodIn wsL_law wsL_connect := goodIn_ca (goodIn_r _ [151, 129, 152, 153, 154, 2, 155, 17, 156, 157, 158, 159, 160, 139, 140, 135, 136, 137, 138, 97, 161, 162, 163, 164, 165, 166, 735, 736, 737, 738, 754, 755, 756, 757] (by decide +kernel) (by decide +kernel)) (goodIn_sub (fun _ h => List.mem_append_right _ h) (by decide +kernel))
set_option maxRecDepth 20000 in
theorem gL_law_L_connect : GoodIn wsL_law (va_wsS RL 121 yL_connect wsL_connect) := goodIn_app (goodIn_of _ (by decide +kernel)) ggL_law_L_connect
set_option maxRecDepth 20000 in
theorem ggL_law_X5_connect : GoodIn wsL_law wsX5_connect := goodIn_r _ [170, 112, 74, 171, 172, 5, 173, 145, 146, 147, 148, 113, 174, 175, 176, 739, 740, 741, 742, 743, 744, 745, 746, 747, 748, 749, 750, 751, 752, 753] (by decide +kernel) (by decide +kernel)
set_option maxRecDepth 20000 in
theorem gL_law_X5_connect : GoodIn wsL_law (wsV RL 124 RX5 yX5_connect wsX5_connect) := goodIn_app (goodIn_of _ (by decide +kernel)) ggL_law_X5_connect
set_option maxRecDepth 20000 in
theorem ggL_law_L_gather : GoodIn wsL_law wsL_gather := goodIn_ca (goodIn_ca (goodIn_r _ [179, 129, 89, 180, 181, 182, 2, 183, 102, 103, 17, 157, 158, 159, 160, 139, 140, 184, 185, 186, 16, 187, 38, 188, 189, 190, 191, 37, 165, 166, 192, 193, 194, 195, 196, 197, 198, 735, 736, 737, 738, 754, 755, 756, 757] (by decide +kernel) (by decide +kernel)) (goodIn_sub (fun _ h => List.mem_append_left _ (List.mem_append_right _ h)) (by decide +kernel))) (goodIn_sub (fun _ h => List.mem_append_right _ h) (by decide +kernel))
set_option maxRecDepth 20000 in
theorem gL_law_L_gather : GoodIn wsL_law (va_wsS RL 125 yL_gather wsL_gather) := goodIn_app (goodIn_of _ (by decide +kernel)) ggL_law_L_gather
set_option maxRecDepth 20000 in
theorem ggL_law_X5_gather : GoodIn wsL_law wsX5_gather := goodIn_r _ [202, 112, 113, 74, 171, 172, 5, 173, 118, 119, 120, 121, 174, 175, 176, 203, 193, 194, 195, 196, 197, 198, 739, 740, 741, 742, 743, 744, 745, 746, 747, 748, 749, 750, 751, 752, 753] (by decide +kernel) (by decide +kernel)
set_option maxRecDepth 20000 in
theorem gL_law_X5_gather : GoodIn wsL_law (wsV RL 127 RX5 yX5_gather wsX5_gather) := goodIn_app (goodIn_of _ (by decide +kernel)) ggL_law_X5_gather
set_option maxRecDepth 20000 in
theorem ggL_law_L_setActual : GoodIn wsL_law wsL_setActual := goodIn_ca (goodIn_r _ [206, 129, 207, 208, 209, 2, 210, 17, 211, 135, 136, 137, 138, 139, 140, 97, 735, 736, 737, 738, 754, 755, 756, 757] (by decide +kernel) (by decide +kernel)) (goodIn_sub (fun _ h => List.mem_append_right _ h) (by decide +kernel))
set_option maxRecDepth 20000 in
theorem gL_law_L_setActual : GoodIn wsL_law (va_wsS RL 128 yL_setActual wsL_setActual) := goodIn_app (goodIn_of _ (by decide +kernel)) ggL_law_L_setActual
set_option maxRecDepth 20000 in
theorem ggL_law_X5_setActual : GoodIn wsL_law wsX5_setActual := goodIn_r _ [215, 112, 114, 145, 146, 147, 5, 148, 113, 118, 119, 120, 121, 739, 740, 741, 742, 743, 744, 745, 746, 747, 748, 749, 750, 751, 752, 753] (by decide +kernel) (by decide +kernel)
set_option maxRecDepth 20000 in
theorem gL_law_X5_setActual : GoodIn wsL_law (wsV RL 130 RX5 yX5_setActual wsX5_setActual) := goodIn_app (goodIn_of _ (by decide +kernel)) ggL_law_X5_setActual
set_option maxRecDepth 20000 in
theorem ggL_law_L_actual : GoodIn wsL_law wsL_actual := goodIn_ca (goodIn_r _ [218, 90, 219, 220, 221, 2, 222, 17, 211, 223, 224, 225, 226, 95, 96, 97, 735, 736, 737, 738, 754, 755, 756, 757] (by decide +kernel) (by decide +kernel)) (goodIn_sub (fun _ h => List.mem_append_left _ (List.mem_append_left _ (List.mem_append_right _ h))) (by decide +kernel))
set_option maxRecDepth 20000 in
theorem gL_law_L_actual : GoodIn wsL_law (va_wsS RL 131 yL_actual wsL_actual) := goodIn_app (goodIn_of _ (by decide +kernel)) ggL_law_L_actual
