set_option maxRecDepth 20000 in
theorem ggL_law_X3_chamber : GoodIn wsL_law wsX3_chamber := goodIn_r _ [203, 15, 73, 74, 673, 674, 675, 676, 677, 678, 679, 680, 681, 682, 683, 684, 685, 716, 717, 718, 719, 720, 721, 722, 723, 724, 725, 726, 727, 728, 729] (by decide +kernel) (by decide +kernel)
set_option maxRecDepth 20000 in
theorem gL_law_X3_chamber : GoodIn wsL_law (wsV RL 45 RX3 yX3_chamber wsX3_chamber) := goodIn_app (goodIn_of _ (by decide +kernel)) ggL_law_X3_chamber
set_option maxRecDepth 20000 in
theorem ggL_law_X4_chamber : GoodIn wsL_law wsX4_chamber := goodIn_r _ [207, 208, 81, 82, 5, 83, 209, 210, 211, 212, 80, 68, 686, 687, 688, 689, 690, 691, 692, 693, 694, 695, 696, 697, 698, 699, 700, 701, 702, 703, 704, 705, 706, 707, 708, 709, 710, 711, 712, 713, 714, 715] (by decide +kernel) (by decide +kernel)
set_option maxRecDepth 20000 in
theorem gL_law_X4_chamber : GoodIn wsL_law (wsV RL 48 RX4 yX4_chamber wsX4_chamber) := goodIn_app (goodIn_of _ (by decide +kernel)) ggL_law_X4_chamber
set_option maxRecDepth 20000 in
theorem ggL_law_X3_boat : GoodIn wsL_law wsX3_boat := goodIn_r _ [216, 18, 217, 218, 219, 220, 2, 221, 222, 223, 224, 24, 225, 226, 42, 673, 674, 675, 676, 677, 678, 679, 680, 681, 682, 683, 684, 685, 730, 731] (by decide +kernel) (by decide +kernel)
set_option maxRecDepth 20000 in
theorem gL_law_X3_boat : GoodIn wsL_law (wsV RL 49 RX3 yX3_boat wsX3_boat) := goodIn_app (goodIn_of _ (by decide +kernel)) ggL_law_X3_boat
set_option maxRecDepth 20000 in
theorem ggL_law_X4_boat : GoodIn wsL_law wsX4_boat := goodIn_r _ [230, 231, 61, 63, 232, 233, 5, 234, 81, 82, 83, 235, 236, 237, 238, 686, 687, 688, 689, 690, 691, 692, 693, 694, 695, 696, 697, 698, 699, 700, 701, 702, 703, 704, 705, 706, 707, 708, 709, 710, 711, 712, 713, 714, 715] (by decide +kernel) (by decide +kernel)
set_option maxRecDepth 20000 in
theorem gL_law_X4_boat : GoodIn wsL_law (wsV RL 52 RX4 yX4_boat wsX4_boat) := goodIn_app (goodIn_of _ (by decide +kernel)) ggL_law_X4_boat
set_option maxRecDepth 20000 in
theorem ggL_law_X3_leave : GoodIn wsL_law wsX3_leave := goodIn_r _ [242, 18, 217, 243, 244, 245, 24, 246, 226, 42, 247, 248, 249, 250, 251, 252, 253, 254, 673, 674, 675, 676, 677, 678, 679, 680, 681, 682, 683, 684, 685, 730, 731] (by decide +kernel) (by decide +kernel)
set_option maxRecDepth 20000 in
theorem gL_law_X3_leave : GoodIn wsL_law (wsV RL 53 RX3 yX3_leave wsX3_leave) := goodIn_app (goodIn_of _ (by decide +kernel)) ggL_law_X3_leave
set_option maxRecDepth 20000 in
theorem ggL_law_X4_leave : GoodIn wsL_law wsX4_leave := goodIn_r _ [258, 231, 63, 61, 235, 236, 237, 5, 238, 686, 687, 688, 689, 690, 691, 692, 693, 694, 695, 696, 697, 698, 699, 700, 701, 702, 703, 704, 705, 706, 707, 708, 709, 710, 711, 712, 713, 714, 715] (by decide +kernel) (by decide +kernel)
set_option maxRecDepth 20000 in
theorem gL_law_X4_leave : GoodIn wsL_law (wsV RL 56 RX4 yX4_leave wsX4_leave) := goodIn_app (goodIn_of _ (by decide +kernel)) ggL_law_X4_leave
set_option maxRecDepth 20000 in
theorem ggL_law_X3_waits : GoodIn wsL_law wsX3_waits := goodIn_r _ [262, 18, 217, 219, 220, 2, 221, 263, 264, 265, 24, 266, 226, 42, 673, 674, 675, 676, 677, 678, 679, 680, 681, 682, 683, 684, 685, 730, 731] (by decide +kernel) (by decide +kernel)
set_option maxRecDepth 20000 in
theorem gL_law_X3_waits : GoodIn wsL_law (wsV RL 57 RX3 yX3_waits wsX3_waits) := goodIn_app (goodIn_of _ (by decide +kernel)) ggL_law_X3_waits
set_option maxRecDepth 20000 in
theorem ggL_law_X4_waits : GoodIn wsL_law wsX4_waits := goodIn_r _ [270, 271, 272, 232, 233, 5, 234, 81, 82, 83, 273, 274, 275, 276, 231, 63, 61, 686, 687, 688, 689, 690, 691, 692, 693, 694, 695, 696, 697, 698, 699, 700, 701, 702, 703, 704, 705, 706, 707, 708, 709, 710, 711, 712, 713, 714, 715] (by decide +kernel) (by decide +kernel)
set_option maxRecDepth 20000 in
theorem gL_law_X4_waits : GoodIn wsL_law (wsV RL 60 RX4 yX4_waits wsX4_waits) := goodIn_app (goodIn_of _ (by decide +kernel)) ggL_law_X4_waits
