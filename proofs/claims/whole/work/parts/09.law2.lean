set_option maxRecDepth 20000 in
theorem ggL_law_X5_actual : GoodIn wsL_law wsX5_actual := goodIn_r _ [230, 112, 113, 114, 118, 119, 120, 5, 121, 739, 740, 741, 742, 743, 744, 745, 746, 747, 748, 749, 750, 751, 752, 753] (by decide +kernel) (by decide +kernel)
set_option maxRecDepth 20000 in
theorem gL_law_X5_actual : GoodIn wsL_law (wsV RL 134 RX5 yX5_actual wsX5_actual) := goodIn_app (goodIn_of _ (by decide +kernel)) ggL_law_X5_actual
set_option maxRecDepth 20000 in
theorem ggL_law_X4_worldCount : GoodIn wsL_law wsX4_worldCount := goodIn_r _ [234, 17, 97, 735, 736, 737, 738, 754, 755, 756, 757] (by decide +kernel) (by decide +kernel)
set_option maxRecDepth 20000 in
theorem gL_law_X4_worldCount : GoodIn wsL_law (wsV RL 135 RX4 yX4_worldCount wsX4_worldCount) := goodIn_app (goodIn_of _ (by decide +kernel)) ggL_law_X4_worldCount
set_option maxRecDepth 20000 in
theorem ggL_law_X5_worldCount : GoodIn wsL_law wsX5_worldCount := goodIn_r _ [238, 112, 113, 739, 740, 741, 742, 743, 744, 745, 746, 747, 748, 749, 750, 751, 752, 753] (by decide +kernel) (by decide +kernel)
set_option maxRecDepth 20000 in
theorem gL_law_X5_worldCount : GoodIn wsL_law (wsV RL 138 RX5 yX5_worldCount wsX5_worldCount) := goodIn_app (goodIn_of _ (by decide +kernel)) ggL_law_X5_worldCount
set_option maxRecDepth 20000 in
theorem ggL_law_L_atoms : GoodIn wsL_law wsL_atoms := goodIn_ca (goodIn_r _ [241, 129, 242, 243, 244, 2, 245, 17, 134, 135, 136, 137, 138, 139, 140, 97, 735, 736, 737, 738, 754, 755, 756, 757] (by decide +kernel) (by decide +kernel)) (goodIn_sub (fun _ h => List.mem_append_right _ h) (by decide +kernel))
set_option maxRecDepth 20000 in
theorem gL_law_L_atoms : GoodIn wsL_law (va_wsS RL 139 yL_atoms wsL_atoms) := goodIn_app (goodIn_of _ (by decide +kernel)) ggL_law_L_atoms
set_option maxRecDepth 20000 in
theorem ggL_law_X5_atoms : GoodIn wsL_law wsX5_atoms := goodIn_r _ [249, 112, 73, 145, 146, 147, 5, 148, 113, 118, 119, 120, 121, 739, 740, 741, 742, 743, 744, 745, 746, 747, 748, 749, 750, 751, 752, 753] (by decide +kernel) (by decide +kernel)
set_option maxRecDepth 20000 in
theorem gL_law_X5_atoms : GoodIn wsL_law (wsV RL 141 RX5 yX5_atoms wsX5_atoms) := goodIn_app (goodIn_of _ (by decide +kernel)) ggL_law_X5_atoms
set_option maxRecDepth 20000 in
theorem ggL_law_L_seen : GoodIn wsL_law wsL_seen := goodIn_ca (goodIn_r _ [252, 129, 253, 254, 255, 2, 256, 17, 156, 157, 158, 159, 160, 139, 140, 135, 136, 137, 138, 97, 735, 736, 737, 738, 754, 755, 756, 757] (by decide +kernel) (by decide +kernel)) (goodIn_sub (fun _ h => List.mem_append_right _ h) (by decide +kernel))
set_option maxRecDepth 20000 in
theorem gL_law_L_seen : GoodIn wsL_law (va_wsS RL 142 yL_seen wsL_seen) := goodIn_app (goodIn_of _ (by decide +kernel)) ggL_law_L_seen
set_option maxRecDepth 20000 in
theorem ggL_law_X5_seen : GoodIn wsL_law wsX5_seen := goodIn_r _ [260, 112, 74, 171, 172, 5, 173, 145, 146, 147, 148, 113, 118, 119, 120, 121, 739, 740, 741, 742, 743, 744, 745, 746, 747, 748, 749, 750, 751, 752, 753] (by decide +kernel) (by decide +kernel)
set_option maxRecDepth 20000 in
theorem gL_law_X5_seen : GoodIn wsL_law (wsV RL 144 RX5 yX5_seen wsX5_seen) := goodIn_app (goodIn_of _ (by decide +kernel)) ggL_law_X5_seen
set_option maxRecDepth 20000 in
theorem ggL_law_L_arrowCount : GoodIn wsL_law wsL_arrowCount := goodIn_ca (goodIn_r _ [263, 129, 264, 265, 266, 2, 267, 17, 157, 158, 159, 160, 139, 140, 268, 269, 270, 16, 271, 38, 37, 192, 193, 194, 195, 196, 197, 198, 735, 736, 737, 738, 754, 755, 756, 757] (by decide +kernel) (by decide +kernel)) (goodIn_sub (fun _ h => List.mem_append_right _ h) (by decide +kernel))
set_option maxRecDepth 20000 in
theorem gL_law_L_arrowCount : GoodIn wsL_law (va_wsS RL 145 yL_arrowCount wsL_arrowCount) := goodIn_app (goodIn_of _ (by decide +kernel)) ggL_law_L_arrowCount
set_option maxRecDepth 20000 in
theorem ggL_law_X5_arrowCount : GoodIn wsL_law wsX5_arrowCount := goodIn_r _ [275, 112, 113, 74, 171, 172, 5, 173, 118, 119, 120, 121, 203, 193, 194, 195, 196, 197, 198, 739, 740, 741, 742, 743, 744, 745, 746, 747, 748, 749, 750, 751, 752, 753] (by decide +kernel) (by decide +kernel)
set_option maxRecDepth 20000 in
theorem gL_law_X5_arrowCount : GoodIn wsL_law (wsV RL 147 RX5 yX5_arrowCount wsX5_arrowCount) := goodIn_app (goodIn_of _ (by decide +kernel)) ggL_law_X5_arrowCount
set_option maxRecDepth 20000 in
theorem ggL_law_L_shape : GoodIn wsL_law wsL_shape := goodIn_ca (goodIn_r _ [278, 129, 279, 280, 281, 2, 282, 17, 157, 158, 159, 160, 139, 140, 283, 284, 285, 16, 286, 38, 37, 165, 166, 287, 288, 289, 290, 291, 292, 293, 294, 735, 736, 737, 738, 754, 755, 756, 757] (by decide +kernel) (by decide +kernel)) (goodIn_sub (fun _ h => List.mem_append_right _ h) (by decide +kernel))
set_option maxRecDepth 20000 in
theorem gL_law_L_shape : GoodIn wsL_law (va_wsS RL 148 yL_shape wsL_shape) := goodIn_app (goodIn_of _ (by decide +kernel)) ggL_law_L_shape
set_option maxRecDepth 20000 in
theorem ggL_law_X5_shape : GoodIn wsL_law wsX5_shape := goodIn_r _ [298, 112, 113, 74, 171, 172, 5, 173, 118, 119, 120, 121, 174, 175, 176, 739, 740, 741, 742, 743, 744, 745, 746, 747, 748, 749, 750, 751, 752, 753] (by decide +kernel) (by decide +kernel)
set_option maxRecDepth 20000 in
theorem gL_law_X5_shape : GoodIn wsL_law (wsV RL 150 RX5 yX5_shape wsX5_shape) := goodIn_app (goodIn_of _ (by decide +kernel)) ggL_law_X5_shape
set_option maxRecDepth 20000 in
theorem ggL_law_L_atom : GoodIn wsL_law wsL_atom := goodIn_ca (goodIn_ca (goodIn_r _ [301, 129, 90, 302, 303, 304, 2, 305, 139, 140, 21, 306, 307, 308, 309, 95, 96, 310, 311, 312, 313, 20, 314, 51, 44, 45, 46, 47, 48, 49, 50, 315, 316, 317, 318, 319, 320, 321, 322, 323, 324, 325, 326, 735, 736, 737, 738, 758, 759, 760, 761, 762, 763, 764, 765] (by decide +kernel) (by decide +kernel)) (goodIn_sub (fun _ h => List.mem_append_right _ h) (by decide +kernel))) (goodIn_sub (fun _ h => List.mem_append_left _ (List.mem_append_left _ (List.mem_append_right _ h))) (by decide +kernel))
set_option maxRecDepth 20000 in
theorem gL_law_L_atom : GoodIn wsL_law (va_wsS RL 151 yL_atom wsL_atom) := goodIn_app (goodIn_of _ (by decide +kernel)) ggL_law_L_atom
set_option maxRecDepth 20000 in
theorem ggL_law_X5_atom : GoodIn wsL_law wsX5_atom := goodIn_r _ [330, 112, 331, 332, 333, 5, 334, 335, 75, 76, 77, 78, 79, 118, 119, 120, 121, 739, 740, 741, 742, 743, 744, 745, 746, 747, 748, 749, 750, 751, 752, 753] (by decide +kernel) (by decide +kernel)
set_option maxRecDepth 20000 in
theorem gL_law_X5_atom : GoodIn wsL_law (wsV RL 153 RX5 yX5_atom wsX5_atom) := goodIn_app (goodIn_of _ (by decide +kernel)) ggL_law_X5_atom
set_option maxRecDepth 20000 in
theorem ggL_law_L_not : GoodIn wsL_law wsL_not := goodIn_ca (goodIn_ca (goodIn_r _ [338, 129, 90, 339, 340, 341, 2, 342, 21, 343, 344, 345, 346, 139, 140, 310, 306, 307, 308, 309, 95, 96, 311, 312, 313, 20, 314, 51, 44, 45, 46, 47, 48, 49, 50, 315, 316, 317, 318, 319, 320, 321, 322, 323, 324, 325, 326, 735, 736, 737, 738, 758, 759, 760, 761, 762, 763, 764, 765] (by decide +kernel) (by decide +kernel)) (goodIn_sub (fun _ h => List.mem_append_right _ h) (by decide +kernel))) (goodIn_sub (fun _ h => List.mem_append_left _ (List.mem_append_left _ (List.mem_append_right _ h))) (by decide +kernel))
set_option maxRecDepth 20000 in
theorem gL_law_L_not : GoodIn wsL_law (va_wsS RL 154 yL_not wsL_not) := goodIn_app (goodIn_of _ (by decide +kernel)) ggL_law_L_not
