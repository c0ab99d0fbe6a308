set_option maxRecDepth 20000 in
theorem ggL_law_X3_ahead : GoodIn wsL_law wsX3_ahead := goodIn_r _ [489, 16, 15, 490, 460, 461, 462, 14, 463, 30, 318, 96, 186, 31, 464, 252, 253, 254, 32, 33, 34, 35, 36, 491, 492, 493, 494, 319, 495, 315, 316, 317, 38, 37, 320, 321, 322, 323, 324, 325, 326, 327, 328, 183, 184, 185, 329, 179, 180, 181, 330, 331, 332, 333, 334, 335, 336, 337, 338, 339, 340, 341, 342, 673, 674, 675, 676, 677, 678, 679, 680, 681, 682, 683, 684, 685, 716, 717, 718, 719, 720, 721, 722, 723, 724, 725, 726, 727, 728, 729] (by decide +kernel) (by decide +kernel)
set_option maxRecDepth 20000 in
theorem gL_law_X3_ahead : GoodIn wsL_law (wsV RL 93 RX3 yX3_ahead wsX3_ahead) := goodIn_app (goodIn_of _ (by decide +kernel)) ggL_law_X3_ahead
set_option maxRecDepth 20000 in
theorem ggL_law_X4_ahead : GoodIn wsL_law wsX4_ahead := goodIn_r _ [499, 500, 81, 82, 5, 83, 501, 502, 503, 504, 80, 369, 473, 474, 475, 476, 477, 66, 60, 375, 376, 377, 378, 370, 65, 68, 64, 106, 59, 379, 380, 381, 382, 117, 57, 196, 197, 198, 199, 56, 58, 383, 384, 385, 386, 387, 388, 389, 390, 391, 392, 393, 394, 395, 396, 478, 479, 480, 481, 686, 687, 688, 689, 690, 691, 692, 693, 694, 695, 696, 697, 698, 699, 700, 701, 702, 703, 704, 705, 706, 707, 708, 709, 710, 711, 712, 713, 714, 715] (by decide +kernel) (by decide +kernel)
set_option maxRecDepth 20000 in
theorem gL_law_X4_ahead : GoodIn wsL_law (wsV RL 96 RX4 yX4_ahead wsX4_ahead) := goodIn_app (goodIn_of _ (by decide +kernel)) ggL_law_X4_ahead
set_option maxRecDepth 20000 in
theorem ggL_law_X3_better : GoodIn wsL_law wsX3_better := goodIn_r _ [508, 122, 123, 124, 2, 125, 15, 88, 509, 510, 511, 512, 490, 16, 175, 460, 461, 462, 14, 463, 30, 318, 96, 186, 31, 464, 252, 253, 254, 32, 33, 34, 35, 36, 491, 492, 493, 494, 319, 495, 315, 316, 317, 38, 37, 320, 321, 322, 323, 324, 325, 326, 327, 328, 183, 184, 185, 329, 179, 180, 181, 330, 331, 332, 333, 334, 335, 336, 337, 338, 339, 340, 341, 342, 513, 514, 515, 516, 517, 518, 673, 674, 675, 676, 677, 678, 679, 680, 681, 682, 683, 684, 685, 716, 717, 718, 719, 720, 721, 722, 723, 724, 725, 726, 727, 728, 729] (by decide +kernel) (by decide +kernel)
set_option maxRecDepth 20000 in
theorem gL_law_X3_better : GoodIn wsL_law (wsV RL 97 RX3 yX3_better wsX3_better) := goodIn_app (goodIn_of _ (by decide +kernel)) ggL_law_X3_better
set_option maxRecDepth 20000 in
theorem ggL_law_X4_better : GoodIn wsL_law wsX4_better := goodIn_r _ [522, 130, 131, 132, 5, 133, 106, 81, 82, 83, 232, 233, 234, 523, 524, 525, 526, 56, 393, 501, 502, 503, 504, 80, 369, 473, 474, 475, 476, 477, 66, 60, 375, 376, 377, 378, 370, 65, 68, 64, 59, 379, 380, 381, 382, 117, 57, 196, 197, 198, 199, 58, 383, 384, 385, 386, 387, 388, 389, 390, 391, 392, 394, 395, 396, 478, 479, 480, 481, 686, 687, 688, 689, 690, 691, 692, 693, 694, 695, 696, 697, 698, 699, 700, 701, 702, 703, 704, 705, 706, 707, 708, 709, 710, 711, 712, 713, 714, 715] (by decide +kernel) (by decide +kernel)
set_option maxRecDepth 20000 in
theorem gL_law_X4_better : GoodIn wsL_law (wsV RL 100 RX4 yX4_better wsX4_better) := goodIn_app (goodIn_of _ (by decide +kernel)) ggL_law_X4_better
set_option maxRecDepth 20000 in
theorem ggL_law_X3_needless : GoodIn wsL_law wsX3_needless := goodIn_r _ [530, 531, 532, 533, 2, 534, 490, 15, 88, 16, 112, 182, 183, 184, 14, 185, 186, 460, 461, 462, 463, 30, 318, 96, 31, 464, 252, 253, 254, 32, 33, 34, 35, 36, 491, 492, 493, 494, 319, 495, 315, 316, 317, 38, 37, 320, 321, 322, 323, 324, 325, 326, 327, 328, 329, 179, 180, 181, 330, 331, 332, 333, 334, 335, 336, 337, 338, 339, 340, 341, 342, 513, 514, 515, 516, 517, 518, 673, 674, 675, 676, 677, 678, 679, 680, 681, 682, 683, 684, 685, 716, 717, 718, 719, 720, 721, 722, 723, 724, 725, 726, 727, 728, 729] (by decide +kernel) (by decide +kernel)
set_option maxRecDepth 20000 in
theorem gL_law_X3_needless : GoodIn wsL_law (wsV RL 101 RX3 yX3_needless wsX3_needless) := goodIn_app (goodIn_of _ (by decide +kernel)) ggL_law_X3_needless
set_option maxRecDepth 20000 in
theorem ggL_law_X4_needless : GoodIn wsL_law wsX4_needless := goodIn_r _ [538, 232, 233, 5, 234, 81, 82, 83, 539, 540, 541, 542, 393, 106, 117, 383, 384, 385, 501, 502, 503, 504, 80, 369, 473, 474, 475, 476, 477, 66, 60, 375, 376, 377, 378, 370, 65, 68, 64, 59, 379, 380, 381, 382, 57, 196, 197, 198, 199, 56, 58, 386, 387, 388, 389, 390, 391, 392, 394, 395, 396, 478, 479, 480, 481, 686, 687, 688, 689, 690, 691, 692, 693, 694, 695, 696, 697, 698, 699, 700, 701, 702, 703, 704, 705, 706, 707, 708, 709, 710, 711, 712, 713, 714, 715] (by decide +kernel) (by decide +kernel)
set_option maxRecDepth 20000 in
theorem gL_law_X4_needless : GoodIn wsL_law (wsV RL 104 RX4 yX4_needless wsX4_needless) := goodIn_app (goodIn_of _ (by decide +kernel)) ggL_law_X4_needless
set_option maxRecDepth 20000 in
theorem ggL_law_X3_sheet : GoodIn wsL_law wsX3_sheet := goodIn_r _ [546, 20, 150, 151, 2, 152, 547, 548, 549, 153, 154, 155, 156, 157, 550, 551, 552, 26, 553, 46, 554, 555, 47, 556, 321, 322, 323, 673, 674, 675, 676, 677, 678, 679, 680, 681, 682, 683, 684, 685, 732, 733, 734, 735] (by decide +kernel) (by decide +kernel)
set_option maxRecDepth 20000 in
theorem gL_law_X3_sheet : GoodIn wsL_law (wsV RL 105 RX3 yX3_sheet wsX3_sheet) := goodIn_app (goodIn_of _ (by decide +kernel)) ggL_law_X3_sheet
set_option maxRecDepth 20000 in
theorem ggL_law_X4_sheet : GoodIn wsL_law wsX4_sheet := goodIn_r _ [560, 208, 52, 53, 54, 162, 163, 5, 164, 105, 81, 82, 83, 165, 166, 167, 168, 169, 686, 687, 688, 689, 690, 691, 692, 693, 694, 695, 696, 697, 698, 699, 700, 701, 702, 703, 704, 705, 706, 707, 708, 709, 710, 711, 712, 713, 714, 715] (by decide +kernel) (by decide +kernel)
set_option maxRecDepth 20000 in
theorem gL_law_X4_sheet : GoodIn wsL_law (wsV RL 108 RX4 yX4_sheet wsX4_sheet) := goodIn_app (goodIn_of _ (by decide +kernel)) ggL_law_X4_sheet
