set_option maxRecDepth 20000 in
theorem ggL_law_X3_lose : GoodIn wsL_law wsX3_lose := goodIn_r _ [564, 20, 147, 148, 150, 151, 2, 152, 153, 154, 155, 156, 157, 673, 674, 675, 676, 677, 678, 679, 680, 681, 682, 683, 684, 685, 732, 733, 734, 735] (by decide +kernel) (by decide +kernel)
set_option maxRecDepth 20000 in
theorem gL_law_X3_lose : GoodIn wsL_law (wsV RL 109 RX3 yX3_lose wsX3_lose) := goodIn_app (goodIn_of _ (by decide +kernel)) ggL_law_X3_lose
set_option maxRecDepth 20000 in
theorem ggL_law_X4_lose : GoodIn wsL_law wsX4_lose := goodIn_r _ [568, 52, 53, 162, 163, 5, 164, 105, 81, 82, 83, 165, 166, 167, 168, 169, 686, 687, 688, 689, 690, 691, 692, 693, 694, 695, 696, 697, 698, 699, 700, 701, 702, 703, 704, 705, 706, 707, 708, 709, 710, 711, 712, 713, 714, 715] (by decide +kernel) (by decide +kernel)
set_option maxRecDepth 20000 in
theorem gL_law_X4_lose : GoodIn wsL_law (wsV RL 112 RX4 yX4_lose wsX4_lose) := goodIn_app (goodIn_of _ (by decide +kernel)) ggL_law_X4_lose
set_option maxRecDepth 20000 in
theorem ggL_law_X3_lay : GoodIn wsL_law wsX3_lay := goodIn_r _ [572, 20, 150, 151, 2, 152, 547, 548, 549, 573, 574, 575, 26, 576, 46, 554, 555, 153, 154, 155, 156, 157, 577, 578, 579, 580, 47, 673, 674, 675, 676, 677, 678, 679, 680, 681, 682, 683, 684, 685, 732, 733, 734, 735] (by decide +kernel) (by decide +kernel)
set_option maxRecDepth 20000 in
theorem gL_law_X3_lay : GoodIn wsL_law (wsV RL 113 RX3 yX3_lay wsX3_lay) := goodIn_app (goodIn_of _ (by decide +kernel)) ggL_law_X3_lay
set_option maxRecDepth 20000 in
theorem ggL_law_X4_lay : GoodIn wsL_law wsX4_lay := goodIn_r _ [584, 208, 54, 162, 163, 5, 164, 105, 81, 82, 83, 585, 586, 587, 588, 52, 53, 165, 166, 167, 168, 169, 589, 590, 591, 686, 687, 688, 689, 690, 691, 692, 693, 694, 695, 696, 697, 698, 699, 700, 701, 702, 703, 704, 705, 706, 707, 708, 709, 710, 711, 712, 713, 714, 715] (by decide +kernel) (by decide +kernel)
set_option maxRecDepth 20000 in
theorem gL_law_X4_lay : GoodIn wsL_law (wsV RL 117 RX4 yX4_lay wsX4_lay) := goodIn_app (goodIn_of _ (by decide +kernel)) ggL_law_X4_lay
set_option maxRecDepth 20000 in
theorem ggL_law_X3_get : GoodIn wsL_law wsX3_get := goodIn_r _ [595, 596, 20, 149, 150, 151, 2, 152, 547, 548, 549, 573, 574, 575, 26, 576, 46, 554, 555, 153, 154, 155, 156, 157, 673, 674, 675, 676, 677, 678, 679, 680, 681, 682, 683, 684, 685, 732, 733, 734, 735] (by decide +kernel) (by decide +kernel)
set_option maxRecDepth 20000 in
theorem gL_law_X3_get : GoodIn wsL_law (wsV RL 118 RX3 yX3_get wsX3_get) := goodIn_app (goodIn_of _ (by decide +kernel)) ggL_law_X3_get
set_option maxRecDepth 20000 in
theorem ggL_law_X4_get : GoodIn wsL_law wsX4_get := goodIn_r _ [600, 208, 601, 54, 162, 163, 5, 164, 105, 81, 82, 83, 585, 586, 587, 588, 52, 53, 165, 166, 167, 168, 169, 686, 687, 688, 689, 690, 691, 692, 693, 694, 695, 696, 697, 698, 699, 700, 701, 702, 703, 704, 705, 706, 707, 708, 709, 710, 711, 712, 713, 714, 715] (by decide +kernel) (by decide +kernel)
set_option maxRecDepth 20000 in
theorem gL_law_X4_get : GoodIn wsL_law (wsV RL 121 RX4 yX4_get wsX4_get) := goodIn_app (goodIn_of _ (by decide +kernel)) ggL_law_X4_get
set_option maxRecDepth 20000 in
theorem ggL_law_X3_copy : GoodIn wsL_law wsX3_copy := goodIn_r _ [605, 20, 147, 606, 149, 607, 252, 253, 254, 150, 151, 2, 152, 153, 154, 155, 156, 157, 608, 609, 610, 26, 611, 555, 673, 674, 675, 676, 677, 678, 679, 680, 681, 682, 683, 684, 685, 732, 733, 734, 735] (by decide +kernel) (by decide +kernel)
set_option maxRecDepth 20000 in
theorem gL_law_X3_copy : GoodIn wsL_law (wsV RL 122 RX3 yX3_copy wsX3_copy) := goodIn_app (goodIn_of _ (by decide +kernel)) ggL_law_X3_copy
set_option maxRecDepth 20000 in
theorem ggL_law_X4_copy : GoodIn wsL_law wsX4_copy := goodIn_r _ [615, 52, 53, 55, 54, 162, 163, 5, 164, 105, 81, 82, 83, 165, 166, 167, 168, 169, 686, 687, 688, 689, 690, 691, 692, 693, 694, 695, 696, 697, 698, 699, 700, 701, 702, 703, 704, 705, 706, 707, 708, 709, 710, 711, 712, 713, 714, 715] (by decide +kernel) (by decide +kernel)
set_option maxRecDepth 20000 in
theorem gL_law_X4_copy : GoodIn wsL_law (wsV RL 126 RX4 yX4_copy wsX4_copy) := goodIn_app (goodIn_of _ (by decide +kernel)) ggL_law_X4_copy
