set_option maxRecDepth 20000 in
theorem ggL_law_X5_decided : GoodIn wsL_law wsX5_decided := goodIn_r _ [556, 112, 113, 74, 114, 73, 171, 172, 5, 173, 118, 119, 120, 121, 174, 175, 176, 739, 740, 741, 742, 743, 744, 745, 746, 747, 748, 749, 750, 751, 752, 753] (by decide +kernel) (by decide +kernel)
set_option maxRecDepth 20000 in
theorem gL_law_X5_decided : GoodIn wsL_law (wsV RL 192 RX5 yX5_decided wsX5_decided) := goodIn_app (goodIn_of _ (by decide +kernel)) ggL_law_X5_decided
set_option maxRecDepth 20000 in
theorem ggL_law_L_reached : GoodIn wsL_law wsL_reached := goodIn_ca (goodIn_ca (goodIn_r _ [559, 89, 129, 560, 561, 562, 2, 563, 17, 385, 386, 387, 388, 102, 103, 135, 136, 137, 138, 139, 140, 97, 564, 565, 566, 16, 567, 38, 568, 484, 485, 486, 37, 165, 166, 735, 736, 737, 738, 754, 755, 756, 757] (by decide +kernel) (by decide +kernel)) (goodIn_sub (fun _ h => List.mem_append_left _ (List.mem_append_right _ h)) (by decide +kernel))) (goodIn_sub (fun _ h => List.mem_append_right _ h) (by decide +kernel))
set_option maxRecDepth 20000 in
theorem gL_law_L_reached : GoodIn wsL_law (va_wsS RL 193 yL_reached wsL_reached) := goodIn_app (goodIn_of _ (by decide +kernel)) ggL_law_L_reached
set_option maxRecDepth 20000 in
theorem ggL_law_X5_reached : GoodIn wsL_law wsX5_reached := goodIn_r _ [572, 112, 393, 394, 5, 395, 118, 119, 120, 121, 145, 146, 147, 148, 113, 495, 496, 497, 498, 507, 508, 509, 510, 511, 512, 513, 514, 74, 174, 175, 176, 739, 740, 741, 742, 743, 744, 745, 746, 747, 748, 749, 750, 751, 752, 753] (by decide +kernel) (by decide +kernel)
set_option maxRecDepth 20000 in
theorem gL_law_X5_reached : GoodIn wsL_law (wsV RL 195 RX5 yX5_reached wsX5_reached) := goodIn_app (goodIn_of _ (by decide +kernel)) ggL_law_X5_reached
set_option maxRecDepth 20000 in
theorem ggL_law_L_areAlike : GoodIn wsL_law wsL_areAlike := goodIn_ca (goodIn_r _ [575, 129, 576, 577, 578, 2, 579, 29, 580, 135, 136, 137, 138, 139, 140, 17, 97, 581, 582, 583, 28, 584, 64, 585, 65, 586, 587, 588, 589, 67, 590, 591, 592, 593, 594, 165, 166, 162, 163, 595, 596, 597, 598, 68, 599, 600, 601, 602, 603, 604, 605, 606, 607, 608, 609, 610, 611, 735, 736, 737, 738, 769, 770, 771, 772, 754, 755, 756, 757] (by decide +kernel) (by decide +kernel)) (goodIn_sub (fun _ h => List.mem_append_right _ h) (by decide +kernel))
set_option maxRecDepth 20000 in
theorem gL_law_L_areAlike : GoodIn wsL_law (va_wsS RL 196 yL_areAlike wsL_areAlike) := goodIn_app (goodIn_of _ (by decide +kernel)) ggL_law_L_areAlike
set_option maxRecDepth 20000 in
theorem ggL_law_X5_areAlike : GoodIn wsL_law wsX5_areAlike := goodIn_r _ [615, 112, 84, 145, 146, 147, 5, 148, 113, 616, 617, 618, 619, 34, 620, 621, 622, 623, 73, 74, 624, 625, 626, 627, 174, 175, 176, 739, 740, 741, 742, 743, 744, 745, 746, 747, 748, 749, 750, 751, 752, 753] (by decide +kernel) (by decide +kernel)
set_option maxRecDepth 20000 in
theorem gL_law_X5_areAlike : GoodIn wsL_law (wsV RL 198 RX5 yX5_areAlike wsX5_areAlike) := goodIn_app (goodIn_of _ (by decide +kernel)) ggL_law_X5_areAlike
set_option maxRecDepth 20000 in
theorem ggL_law_L_announce : GoodIn wsL_law wsL_announce := goodIn_ca (goodIn_ca (goodIn_r _ [630, 129, 90, 631, 632, 633, 2, 634, 25, 17, 343, 344, 345, 346, 139, 140, 21, 310, 447, 448, 449, 24, 450, 56, 451, 185, 186, 16, 187, 38, 452, 453, 454, 455, 57, 456, 59, 457, 458, 459, 460, 461, 462, 463, 464, 465, 466, 467, 468, 35, 165, 166, 162, 163, 469, 470, 471, 472, 473, 474, 475, 476, 477, 37, 478, 479, 480, 481, 482, 483, 484, 485, 486, 635, 636, 637, 638, 95, 96, 211, 223, 224, 225, 226, 97, 164, 639, 640, 641, 642, 39, 192, 193, 194, 195, 196, 197, 198, 643, 644, 645, 646, 647, 161, 537, 648, 649, 650, 651, 735, 736, 737, 738, 758, 759, 760, 761, 762, 763, 764, 765, 766, 767, 768, 754, 755, 756, 757] (by decide +kernel) (by decide +kernel)) (goodIn_sub (fun _ h => List.mem_append_right _ h) (by decide +kernel))) (goodIn_sub (fun _ h => List.mem_append_left _ (List.mem_append_left _ (List.mem_append_right _ h))) (by decide +kernel))
set_option maxRecDepth 20000 in
theorem gL_law_L_announce : GoodIn wsL_law (va_wsS RL 199 yL_announce wsL_announce) := goodIn_app (goodIn_of _ (by decide +kernel)) ggL_law_L_announce
set_option maxRecDepth 20000 in
theorem ggL_law_X5_announce : GoodIn wsL_law wsX5_announce := goodIn_r _ [655, 112, 113, 114, 351, 352, 353, 5, 354, 335, 118, 119, 120, 121, 491, 492, 493, 494, 495, 496, 497, 498, 499, 500, 501, 502, 80, 82, 503, 504, 505, 506, 83, 76, 77, 75, 74, 73, 174, 175, 176, 507, 508, 509, 510, 511, 512, 513, 514, 515, 516, 517, 518, 656, 657, 658, 659, 34, 739, 740, 741, 742, 743, 744, 745, 746, 747, 748, 749, 750, 751, 752, 753] (by decide +kernel) (by decide +kernel)
set_option maxRecDepth 20000 in
theorem gL_law_X5_announce : GoodIn wsL_law (wsV RL 201 RX5 yX5_announce wsX5_announce) := goodIn_app (goodIn_of _ (by decide +kernel)) ggL_law_X5_announce
set_option maxRecDepth 20000 in
theorem ggL_law_L_tell : GoodIn wsL_law wsL_tell := goodIn_ca (goodIn_ca (goodIn_r _ [662, 129, 89, 663, 664, 665, 2, 666, 17, 25, 343, 344, 345, 346, 139, 140, 21, 310, 385, 386, 387, 388, 102, 103, 447, 448, 449, 24, 450, 56, 451, 185, 186, 16, 187, 38, 452, 453, 454, 455, 57, 456, 59, 457, 458, 459, 460, 461, 462, 463, 464, 465, 466, 467, 468, 35, 165, 166, 162, 163, 469, 470, 471, 472, 473, 474, 475, 476, 477, 37, 478, 479, 480, 481, 482, 483, 484, 485, 486, 667, 668, 669, 670, 192, 193, 194, 195, 196, 197, 198, 735, 736, 737, 738, 758, 759, 760, 761, 762, 763, 764, 765, 766, 767, 768, 754, 755, 756, 757] (by decide +kernel) (by decide +kernel)) (goodIn_sub (fun _ h => List.mem_append_right _ h) (by decide +kernel))) (goodIn_sub (fun _ h => List.mem_append_left _ (List.mem_append_right _ h)) (by decide +kernel))
set_option maxRecDepth 20000 in
theorem gL_law_L_tell : GoodIn wsL_law (va_wsS RL 202 yL_tell wsL_tell) := goodIn_app (goodIn_of _ (by decide +kernel)) ggL_law_L_tell
set_option maxRecDepth 20000 in
theorem ggL_law_X5_tell : GoodIn wsL_law wsX5_tell := goodIn_r _ [674, 112, 113, 74, 351, 352, 353, 5, 354, 335, 118, 119, 120, 121, 393, 394, 395, 491, 492, 493, 494, 495, 496, 497, 498, 499, 500, 501, 502, 80, 82, 503, 504, 505, 506, 83, 76, 77, 75, 73, 174, 175, 176, 507, 508, 509, 510, 511, 512, 513, 514, 515, 516, 517, 518, 203, 193, 194, 195, 196, 197, 198, 739, 740, 741, 742, 743, 744, 745, 746, 747, 748, 749, 750, 751, 752, 753] (by decide +kernel) (by decide +kernel)
set_option maxRecDepth 20000 in
theorem gL_law_X5_tell : GoodIn wsL_law (wsV RL 204 RX5 yX5_tell wsX5_tell) := goodIn_app (goodIn_of _ (by decide +kernel)) ggL_law_X5_tell
