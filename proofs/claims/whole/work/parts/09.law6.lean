set_option maxRecDepth 20000 in
theorem ggL_law_L_whisper : GoodIn wsL_law wsL_whisper := goodIn_ca (goodIn_ca (goodIn_ca (goodIn_r _ [677, 129, 89, 90, 678, 679, 680, 2, 681, 95, 96, 25, 17, 97, 343, 344, 345, 346, 139, 140, 21, 310, 385, 386, 387, 388, 102, 103, 447, 448, 449, 24, 450, 56, 451, 185, 186, 16, 187, 38, 452, 453, 454, 455, 57, 456, 59, 457, 458, 459, 460, 461, 462, 463, 464, 465, 466, 467, 468, 35, 165, 166, 162, 163, 469, 470, 471, 472, 473, 474, 475, 476, 477, 37, 478, 479, 480, 481, 482, 483, 484, 485, 486, 635, 636, 637, 638, 211, 223, 224, 225, 226, 164, 537, 193, 194, 195, 196, 197, 198, 682, 683, 684, 685, 39, 686, 105, 106, 107, 643, 644, 645, 646, 647, 161, 735, 736, 737, 738, 754, 755, 756, 757, 758, 759, 760, 761, 762, 763, 764, 765, 766, 767, 768] (by decide +kernel) (by decide +kernel)) (goodIn_sub (fun _ h => List.mem_append_left _ (List.mem_append_left _ (List.mem_append_right _ h))) (by decide +kernel))) (goodIn_sub (fun _ h => List.mem_append_right _ h) (by decide +kernel))) (goodIn_sub (fun _ h => List.mem_append_left _ (List.mem_append_right _ h)) (by decide +kernel))
set_option maxRecDepth 20000 in
theorem gL_law_L_whisper : GoodIn wsL_law (va_wsS RL 205 yL_whisper wsL_whisper) := goodIn_app (goodIn_of _ (by decide +kernel)) ggL_law_L_whisper
set_option maxRecDepth 20000 in
theorem ggL_law_X5_whisper : GoodIn wsL_law wsX5_whisper := goodIn_r _ [690, 112, 113, 114, 34, 73, 74, 351, 352, 353, 5, 354, 335, 118, 119, 120, 121, 393, 394, 395, 491, 492, 493, 494, 495, 496, 497, 498, 499, 500, 501, 502, 80, 82, 503, 504, 505, 506, 83, 76, 77, 75, 174, 175, 176, 507, 508, 509, 510, 511, 512, 513, 514, 515, 516, 517, 518, 203, 193, 194, 195, 196, 197, 198, 739, 740, 741, 742, 743, 744, 745, 746, 747, 748, 749, 750, 751, 752, 753] (by decide +kernel) (by decide +kernel)
set_option maxRecDepth 20000 in
theorem gL_law_X5_whisper : GoodIn wsL_law (wsV RL 207 RX5 yX5_whisper wsX5_whisper) := goodIn_app (goodIn_of _ (by decide +kernel)) ggL_law_X5_whisper
set_option maxRecDepth 20000 in
theorem ggL_law_X4_contract : GoodIn wsL_law wsX4_contract := goodIn_r _ [694, 29, 17, 97, 581, 582, 583, 28, 584, 64, 585, 65, 586, 587, 588, 589, 67, 590, 591, 592, 593, 594, 165, 2, 166, 162, 163, 595, 596, 597, 598, 68, 599, 600, 601, 602, 603, 604, 605, 606, 607, 608, 609, 610, 611, 695, 696, 697, 16, 698, 38, 699, 35, 37, 700, 39, 648, 649, 650, 651, 735, 736, 737, 738, 754, 755, 756, 757, 769, 770, 771, 772] (by decide +kernel) (by decide +kernel)
set_option maxRecDepth 20000 in
theorem gL_law_X4_contract : GoodIn wsL_law (wsV RL 208 RX4 yX4_contract wsX4_contract) := goodIn_app (goodIn_of _ (by decide +kernel)) ggL_law_X4_contract
set_option maxRecDepth 20000 in
theorem ggL_law_X5_contract : GoodIn wsL_law wsX5_contract := goodIn_r _ [704, 112, 113, 84, 74, 114, 616, 617, 618, 5, 619, 34, 620, 621, 622, 623, 73, 624, 625, 626, 627, 174, 175, 176, 656, 657, 658, 659, 739, 740, 741, 742, 743, 744, 745, 746, 747, 748, 749, 750, 751, 752, 753] (by decide +kernel) (by decide +kernel)
set_option maxRecDepth 20000 in
theorem gL_law_X5_contract : GoodIn wsL_law (wsV RL 211 RX5 yX5_contract wsX5_contract) := goodIn_app (goodIn_of _ (by decide +kernel)) ggL_law_X5_contract
set_option maxRecDepth 20000 in
theorem ggL_law_X4_prune : GoodIn wsL_law wsX4_prune := goodIn_r _ [708, 17, 97, 211, 564, 565, 566, 16, 567, 38, 568, 484, 485, 486, 37, 165, 2, 166, 161, 162, 163, 639, 640, 641, 642, 35, 39, 192, 193, 194, 195, 196, 197, 198, 643, 644, 164, 645, 646, 647, 537, 648, 649, 650, 651, 735, 736, 737, 738, 754, 755, 756, 757] (by decide +kernel) (by decide +kernel)
set_option maxRecDepth 20000 in
theorem gL_law_X4_prune : GoodIn wsL_law (wsV RL 212 RX4 yX4_prune wsX4_prune) := goodIn_app (goodIn_of _ (by decide +kernel)) ggL_law_X4_prune
set_option maxRecDepth 20000 in
theorem ggL_law_X5_prune : GoodIn wsL_law wsX5_prune := goodIn_r _ [712, 112, 113, 114, 495, 496, 497, 5, 498, 507, 508, 509, 510, 511, 512, 513, 514, 74, 174, 175, 176, 656, 657, 658, 659, 34, 73, 739, 740, 741, 742, 743, 744, 745, 746, 747, 748, 749, 750, 751, 752, 753] (by decide +kernel) (by decide +kernel)
set_option maxRecDepth 20000 in
theorem gL_law_X5_prune : GoodIn wsL_law (wsV RL 215 RX5 yX5_prune wsX5_prune) := goodIn_app (goodIn_of _ (by decide +kernel)) ggL_law_X5_prune
set_option maxRecDepth 20000 in
theorem ggL_law_X4_digest : GoodIn wsL_law wsX4_digest := goodIn_r _ [716, 21, 17, 717, 718, 719, 720, 16, 721, 38, 35, 37, 39, 722, 2, 723, 724, 725, 726, 727, 20, 728, 51, 44, 48, 49, 735, 736, 737, 738, 754, 755, 756, 757, 758, 759, 760, 761, 762, 763, 764, 765] (by decide +kernel) (by decide +kernel)
set_option maxRecDepth 20000 in
theorem gL_law_X4_digest : GoodIn wsL_law (wsV RL 216 RX4 yX4_digest wsX4_digest) := goodIn_app (goodIn_of _ (by decide +kernel)) ggL_law_X4_digest
set_option maxRecDepth 20000 in
theorem ggL_law_X5_digest : GoodIn wsL_law wsX5_digest := goodIn_r _ [732, 112, 733, 113, 734, 73, 74, 114, 335, 75, 78, 79, 739, 740, 741, 742, 743, 744, 745, 746, 747, 748, 749, 750, 751, 752, 753] (by decide +kernel) (by decide +kernel)
set_option maxRecDepth 20000 in
theorem gL_law_X5_digest : GoodIn wsL_law (wsV RL 220 RX5 yX5_digest wsX5_digest) := goodIn_app (goodIn_of _ (by decide +kernel)) ggL_law_X5_digest
