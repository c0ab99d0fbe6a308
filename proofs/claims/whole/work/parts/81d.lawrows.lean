set_option maxRecDepth 20000 in
theorem ggL_law_X3_rule : GoodIn wsL_law wsX3_rule := goodIn_r _ [280, 281, 673, 674, 675, 676, 677, 678, 679, 680, 681, 682, 683, 684, 685] (by decide +kernel) (by decide +kernel)
set_option maxRecDepth 20000 in
theorem gL_law_X3_rule : GoodIn wsL_law (wsV RL 61 RX3 yX3_rule wsX3_rule) := goodIn_app (goodIn_of _ (by decide +kernel)) ggL_law_X3_rule
set_option maxRecDepth 20000 in
theorem ggL_law_X4_rule : GoodIn wsL_law wsX4_rule := goodIn_r _ [285, 286, 232, 233, 5, 234, 81, 82, 83, 686, 687, 688, 689, 690, 691, 692, 693, 694, 695, 696, 697, 698, 699, 700, 701, 702, 703, 704, 705, 706, 707, 708, 709, 710, 711, 712, 713, 714, 715] (by decide +kernel) (by decide +kernel)
set_option maxRecDepth 20000 in
theorem gL_law_X4_rule : GoodIn wsL_law (wsV RL 64 RX4 yX4_rule wsX4_rule) := goodIn_app (goodIn_of _ (by decide +kernel)) ggL_law_X4_rule
set_option maxRecDepth 20000 in
theorem ggL_law_X3_serve : GoodIn wsL_law wsX3_serve := goodIn_r _ [290, 291, 18, 292, 293, 294, 2, 295, 281, 263, 264, 265, 24, 266, 226, 42, 296, 297, 298, 299, 15, 73, 300, 301, 302, 303, 304, 305, 306, 307, 308, 309, 310, 311, 312, 313, 314, 315, 316, 14, 317, 318, 38, 319, 30, 37, 36, 320, 321, 322, 323, 324, 325, 326, 327, 96, 328, 183, 184, 185, 186, 329, 179, 180, 181, 31, 34, 330, 331, 332, 333, 32, 334, 335, 336, 337, 338, 35, 339, 340, 341, 342, 343, 344, 345, 346, 22, 74, 347, 247, 248, 249, 250, 251, 252, 253, 254, 673, 674, 675, 676, 677, 678, 679, 680, 681, 682, 683, 684, 685, 730, 731, 716, 717, 718, 719, 720, 721, 722, 723, 724, 725, 726, 727, 728, 729] (by decide +kernel) (by decide +kernel)
set_option maxRecDepth 20000 in
theorem gL_law_X3_serve : GoodIn wsL_law (wsV RL 65 RX3 yX3_serve wsX3_serve) := goodIn_app (goodIn_of _ (by decide +kernel)) ggL_law_X3_serve
set_option maxRecDepth 20000 in
theorem ggL_law_X4_serve : GoodIn wsL_law wsX4_serve := goodIn_r _ [351, 352, 61, 63, 353, 354, 355, 5, 356, 231, 286, 357, 358, 359, 360, 80, 361, 362, 363, 364, 365, 366, 367, 368, 67, 68, 369, 370, 65, 371, 372, 373, 374, 375, 376, 377, 378, 64, 60, 106, 59, 379, 380, 381, 382, 117, 57, 196, 197, 198, 199, 56, 58, 383, 384, 385, 386, 387, 388, 389, 390, 391, 392, 393, 394, 395, 396, 686, 687, 688, 689, 690, 691, 692, 693, 694, 695, 696, 697, 698, 699, 700, 701, 702, 703, 704, 705, 706, 707, 708, 709, 710, 711, 712, 713, 714, 715] (by decide +kernel) (by decide +kernel)
set_option maxRecDepth 20000 in
theorem gL_law_X4_serve : GoodIn wsL_law (wsV RL 68 RX4 yX4_serve wsX4_serve) := goodIn_app (goodIn_of _ (by decide +kernel)) ggL_law_X4_serve
set_option maxRecDepth 20000 in
theorem ggL_law_X3_next : GoodIn wsL_law wsX3_next := goodIn_r _ [400, 18, 292, 293, 294, 2, 295, 281, 263, 264, 265, 24, 266, 226, 42, 296, 297, 298, 299, 15, 73, 300, 301, 302, 303, 673, 674, 675, 676, 677, 678, 679, 680, 681, 682, 683, 684, 685, 730, 731, 716, 717, 718, 719, 720, 721, 722, 723, 724, 725, 726, 727, 728, 729] (by decide +kernel) (by decide +kernel)
set_option maxRecDepth 20000 in
theorem gL_law_X3_next : GoodIn wsL_law (wsV RL 69 RX3 yX3_next wsX3_next) := goodIn_app (goodIn_of _ (by decide +kernel)) ggL_law_X3_next
set_option maxRecDepth 20000 in
theorem ggL_law_X4_next : GoodIn wsL_law wsX4_next := goodIn_r _ [404, 232, 233, 5, 234, 81, 82, 83, 361, 362, 363, 364, 61, 353, 354, 355, 356, 231, 63, 286, 357, 358, 359, 360, 80, 686, 687, 688, 689, 690, 691, 692, 693, 694, 695, 696, 697, 698, 699, 700, 701, 702, 703, 704, 705, 706, 707, 708, 709, 710, 711, 712, 713, 714, 715] (by decide +kernel) (by decide +kernel)
set_option maxRecDepth 20000 in
theorem gL_law_X4_next : GoodIn wsL_law (wsV RL 72 RX4 yX4_next wsX4_next) := goodIn_app (goodIn_of _ (by decide +kernel)) ggL_law_X4_next
set_option maxRecDepth 20000 in
theorem ggL_law_X3_turn : GoodIn wsL_law wsX3_turn := goodIn_r _ [408, 291, 15, 309, 304, 305, 306, 2, 307, 73, 308, 310, 311, 312, 313, 314, 315, 316, 14, 317, 318, 38, 319, 30, 37, 36, 320, 321, 322, 323, 324, 325, 326, 327, 96, 328, 183, 184, 185, 186, 329, 179, 180, 181, 31, 34, 330, 331, 332, 333, 32, 334, 335, 336, 337, 338, 35, 339, 340, 341, 342, 343, 344, 345, 346, 22, 74, 347, 673, 674, 675, 676, 677, 678, 679, 680, 681, 682, 683, 684, 685, 716, 717, 718, 719, 720, 721, 722, 723, 724, 725, 726, 727, 728, 729] (by decide +kernel) (by decide +kernel)
set_option maxRecDepth 20000 in
theorem gL_law_X3_turn : GoodIn wsL_law (wsV RL 73 RX3 yX3_turn wsX3_turn) := goodIn_app (goodIn_of _ (by decide +kernel)) ggL_law_X3_turn
set_option maxRecDepth 20000 in
theorem ggL_law_X4_turn : GoodIn wsL_law wsX4_turn := goodIn_r _ [412, 352, 369, 365, 366, 367, 5, 368, 80, 67, 68, 370, 65, 371, 372, 373, 374, 375, 376, 377, 378, 64, 60, 106, 59, 379, 380, 381, 382, 117, 57, 196, 197, 198, 199, 56, 58, 383, 384, 385, 386, 387, 388, 389, 390, 391, 392, 393, 394, 395, 396, 686, 687, 688, 689, 690, 691, 692, 693, 694, 695, 696, 697, 698, 699, 700, 701, 702, 703, 704, 705, 706, 707, 708, 709, 710, 711, 712, 713, 714, 715] (by decide +kernel) (by decide +kernel)
set_option maxRecDepth 20000 in
theorem gL_law_X4_turn : GoodIn wsL_law (wsV RL 76 RX4 yX4_turn wsX4_turn) := goodIn_app (goodIn_of _ (by decide +kernel)) ggL_law_X4_turn
