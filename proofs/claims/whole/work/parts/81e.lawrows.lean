set_option maxRecDepth 20000 in
theorem ggL_law_X3_ledger : GoodIn wsL_law wsX3_ledger := goodIn_r _ [416, 291, 22, 673, 674, 675, 676, 677, 678, 679, 680, 681, 682, 683, 684, 685] (by decide +kernel) (by decide +kernel)
set_option maxRecDepth 20000 in
theorem gL_law_X3_ledger : GoodIn wsL_law (wsV RL 77 RX3 yX3_ledger wsX3_ledger) := goodIn_app (goodIn_of _ (by decide +kernel)) ggL_law_X3_ledger
set_option maxRecDepth 20000 in
theorem ggL_law_X4_ledger : GoodIn wsL_law wsX4_ledger := goodIn_r _ [420, 352, 421, 67, 81, 82, 5, 83, 686, 687, 688, 689, 690, 691, 692, 693, 694, 695, 696, 697, 698, 699, 700, 701, 702, 703, 704, 705, 706, 707, 708, 709, 710, 711, 712, 713, 714, 715] (by decide +kernel) (by decide +kernel)
set_option maxRecDepth 20000 in
theorem gL_law_X4_ledger : GoodIn wsL_law (wsV RL 80 RX4 yX4_ledger wsX4_ledger) := goodIn_app (goodIn_of _ (by decide +kernel)) ggL_law_X4_ledger
set_option maxRecDepth 20000 in
theorem ggL_law_X3_wipe : GoodIn wsL_law wsX3_wipe := goodIn_r _ [425, 291, 673, 674, 675, 676, 677, 678, 679, 680, 681, 682, 683, 684, 685] (by decide +kernel) (by decide +kernel)
set_option maxRecDepth 20000 in
theorem gL_law_X3_wipe : GoodIn wsL_law (wsV RL 81 RX3 yX3_wipe wsX3_wipe) := goodIn_app (goodIn_of _ (by decide +kernel)) ggL_law_X3_wipe
set_option maxRecDepth 20000 in
theorem ggL_law_X4_wipe : GoodIn wsL_law wsX4_wipe := goodIn_r _ [429, 352, 686, 687, 688, 689, 690, 691, 692, 693, 694, 695, 696, 697, 698, 699, 700, 701, 702, 703, 704, 705, 706, 707, 708, 709, 710, 711, 712, 713, 714, 715] (by decide +kernel) (by decide +kernel)
set_option maxRecDepth 20000 in
theorem gL_law_X4_wipe : GoodIn wsL_law (wsV RL 84 RX4 yX4_wipe wsX4_wipe) := goodIn_app (goodIn_of _ (by decide +kernel)) ggL_law_X4_wipe
set_option maxRecDepth 20000 in
theorem ggL_law_X3_total : GoodIn wsL_law wsX3_total := goodIn_r _ [433, 308, 310, 311, 15, 313, 434, 435, 436, 14, 437, 96, 36, 673, 674, 675, 676, 677, 678, 679, 680, 681, 682, 683, 684, 685, 716, 717, 718, 719, 720, 721, 722, 723, 724, 725, 726, 727, 728, 729] (by decide +kernel) (by decide +kernel)
set_option maxRecDepth 20000 in
theorem gL_law_X3_total : GoodIn wsL_law (wsV RL 85 RX3 yX3_total wsX3_total) := goodIn_app (goodIn_of _ (by decide +kernel)) ggL_law_X3_total
set_option maxRecDepth 20000 in
theorem ggL_law_X4_total : GoodIn wsL_law wsX4_total := goodIn_r _ [441, 442, 81, 82, 5, 83, 443, 444, 445, 446, 371, 372, 373, 374, 447, 448, 449, 450, 106, 60, 686, 687, 688, 689, 690, 691, 692, 693, 694, 695, 696, 697, 698, 699, 700, 701, 702, 703, 704, 705, 706, 707, 708, 709, 710, 711, 712, 713, 714, 715] (by decide +kernel) (by decide +kernel)
set_option maxRecDepth 20000 in
theorem gL_law_X4_total : GoodIn wsL_law (wsV RL 88 RX4 yX4_total wsX4_total) := goodIn_app (goodIn_of _ (by decide +kernel)) ggL_law_X4_total
set_option maxRecDepth 20000 in
theorem ggL_law_X3_step : GoodIn wsL_law wsX3_step := goodIn_r _ [454, 15, 74, 16, 455, 456, 457, 458, 2, 459, 460, 461, 462, 14, 463, 30, 318, 96, 186, 31, 464, 252, 253, 254, 32, 33, 34, 35, 36, 314, 315, 316, 317, 38, 319, 37, 320, 321, 322, 323, 324, 325, 326, 327, 328, 183, 184, 185, 329, 179, 180, 181, 330, 331, 332, 333, 334, 335, 336, 337, 338, 339, 340, 341, 342, 673, 674, 675, 676, 677, 678, 679, 680, 681, 682, 683, 684, 685, 716, 717, 718, 719, 720, 721, 722, 723, 724, 725, 726, 727, 728, 729] (by decide +kernel) (by decide +kernel)
set_option maxRecDepth 20000 in
theorem gL_law_X3_step : GoodIn wsL_law (wsV RL 89 RX3 yX3_step wsX3_step) := goodIn_app (goodIn_of _ (by decide +kernel)) ggL_law_X3_step
set_option maxRecDepth 20000 in
theorem ggL_law_X4_step : GoodIn wsL_law wsX4_step := goodIn_r _ [468, 271, 104, 469, 470, 471, 5, 472, 473, 474, 475, 476, 80, 477, 66, 60, 375, 376, 377, 378, 369, 370, 65, 68, 64, 106, 59, 379, 380, 381, 382, 117, 57, 196, 197, 198, 199, 56, 58, 383, 384, 385, 386, 387, 388, 389, 390, 391, 392, 393, 394, 395, 396, 478, 479, 480, 481, 81, 82, 83, 482, 483, 484, 485, 686, 687, 688, 689, 690, 691, 692, 693, 694, 695, 696, 697, 698, 699, 700, 701, 702, 703, 704, 705, 706, 707, 708, 709, 710, 711, 712, 713, 714, 715] (by decide +kernel) (by decide +kernel)
set_option maxRecDepth 20000 in
theorem gL_law_X4_step : GoodIn wsL_law (wsV RL 92 RX4 yX4_step wsX4_step) := goodIn_app (goodIn_of _ (by decide +kernel)) ggL_law_X4_step
