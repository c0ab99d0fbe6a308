set_option maxRecDepth 20000 in
theorem ggL_law_X3_out : GoodIn wsL_law wsX3_out := goodIn_r _ [121, 15, 112, 122, 123, 124, 2, 125, 88, 673, 674, 675, 676, 677, 678, 679, 680, 681, 682, 683, 684, 685, 716, 717, 718, 719, 720, 721, 722, 723, 724, 725, 726, 727, 728, 729] (by decide +kernel) (by decide +kernel)
set_option maxRecDepth 20000 in
theorem gL_law_X3_out : GoodIn wsL_law (wsV RL 28 RX3 yX3_out wsX3_out) := goodIn_app (goodIn_of _ (by decide +kernel)) ggL_law_X3_out
set_option maxRecDepth 20000 in
theorem ggL_law_X4_out : GoodIn wsL_law wsX4_out := goodIn_r _ [129, 117, 130, 131, 132, 5, 133, 106, 81, 82, 83, 686, 687, 688, 689, 690, 691, 692, 693, 694, 695, 696, 697, 698, 699, 700, 701, 702, 703, 704, 705, 706, 707, 708, 709, 710, 711, 712, 713, 714, 715] (by decide +kernel) (by decide +kernel)
set_option maxRecDepth 20000 in
theorem gL_law_X4_out : GoodIn wsL_law (wsV RL 31 RX4 yX4_out wsX4_out) := goodIn_app (goodIn_of _ (by decide +kernel)) ggL_law_X4_out
set_option maxRecDepth 20000 in
theorem ggL_law_X3_leak : GoodIn wsL_law wsX3_leak := goodIn_r _ [137, 15, 138, 122, 123, 124, 2, 125, 88, 673, 674, 675, 676, 677, 678, 679, 680, 681, 682, 683, 684, 685, 716, 717, 718, 719, 720, 721, 722, 723, 724, 725, 726, 727, 728, 729] (by decide +kernel) (by decide +kernel)
set_option maxRecDepth 20000 in
theorem gL_law_X3_leak : GoodIn wsL_law (wsV RL 32 RX3 yX3_leak wsX3_leak) := goodIn_app (goodIn_of _ (by decide +kernel)) ggL_law_X3_leak
set_option maxRecDepth 20000 in
theorem ggL_law_X4_leak : GoodIn wsL_law wsX4_leak := goodIn_r _ [142, 105, 59, 130, 131, 132, 5, 133, 106, 81, 82, 83, 686, 687, 688, 689, 690, 691, 692, 693, 694, 695, 696, 697, 698, 699, 700, 701, 702, 703, 704, 705, 706, 707, 708, 709, 710, 711, 712, 713, 714, 715] (by decide +kernel) (by decide +kernel)
set_option maxRecDepth 20000 in
theorem gL_law_X4_leak : GoodIn wsL_law (wsV RL 36 RX4 yX4_leak wsX4_leak) := goodIn_app (goodIn_of _ (by decide +kernel)) ggL_law_X4_leak
set_option maxRecDepth 20000 in
theorem ggL_law_X3_read : GoodIn wsL_law wsX3_read := goodIn_r _ [146, 20, 147, 148, 15, 88, 149, 150, 151, 2, 152, 153, 154, 155, 156, 157, 89, 90, 91, 92, 93, 94, 14, 95, 96, 31, 32, 33, 34, 35, 36, 97, 98, 99, 673, 674, 675, 676, 677, 678, 679, 680, 681, 682, 683, 684, 685, 732, 733, 734, 735, 716, 717, 718, 719, 720, 721, 722, 723, 724, 725, 726, 727, 728, 729] (by decide +kernel) (by decide +kernel)
set_option maxRecDepth 20000 in
theorem gL_law_X3_read : GoodIn wsL_law (wsV RL 37 RX3 yX3_read wsX3_read) := goodIn_app (goodIn_of _ (by decide +kernel)) ggL_law_X3_read
set_option maxRecDepth 20000 in
theorem ggL_law_X4_read : GoodIn wsL_law wsX4_read := goodIn_r _ [161, 52, 53, 54, 162, 163, 5, 164, 105, 81, 82, 83, 165, 166, 167, 168, 169, 170, 101, 102, 103, 104, 79, 106, 56, 57, 58, 59, 60, 686, 687, 688, 689, 690, 691, 692, 693, 694, 695, 696, 697, 698, 699, 700, 701, 702, 703, 704, 705, 706, 707, 708, 709, 710, 711, 712, 713, 714, 715] (by decide +kernel) (by decide +kernel)
set_option maxRecDepth 20000 in
theorem gL_law_X4_read : GoodIn wsL_law (wsV RL 40 RX4 yX4_read wsX4_read) := goodIn_app (goodIn_of _ (by decide +kernel)) ggL_law_X4_read
set_option maxRecDepth 20000 in
theorem ggL_law_X3_info : GoodIn wsL_law wsX3_info := goodIn_r _ [174, 15, 175, 176, 177, 138, 111, 122, 123, 124, 2, 125, 88, 178, 179, 180, 14, 181, 31, 34, 182, 183, 184, 185, 186, 673, 674, 675, 676, 677, 678, 679, 680, 681, 682, 683, 684, 685, 716, 717, 718, 719, 720, 721, 722, 723, 724, 725, 726, 727, 728, 729] (by decide +kernel) (by decide +kernel)
set_option maxRecDepth 20000 in
theorem gL_law_X3_info : GoodIn wsL_law (wsV RL 41 RX3 yX3_info wsX3_info) := goodIn_app (goodIn_of _ (by decide +kernel)) ggL_law_X3_info
set_option maxRecDepth 20000 in
theorem ggL_law_X4_info : GoodIn wsL_law wsX4_info := goodIn_r _ [190, 191, 130, 131, 132, 5, 133, 106, 81, 82, 83, 192, 193, 194, 195, 56, 57, 58, 59, 60, 117, 196, 197, 198, 199, 686, 687, 688, 689, 690, 691, 692, 693, 694, 695, 696, 697, 698, 699, 700, 701, 702, 703, 704, 705, 706, 707, 708, 709, 710, 711, 712, 713, 714, 715] (by decide +kernel) (by decide +kernel)
set_option maxRecDepth 20000 in
theorem gL_law_X4_info : GoodIn wsL_law (wsV RL 44 RX4 yX4_info wsX4_info) := goodIn_app (goodIn_of _ (by decide +kernel)) ggL_law_X4_info
