/-! the law: words of its calls, 5 -/
set_option maxRecDepth 20000 in
theorem ggL_law_X8_safe : GoodIn wsL_law wsX8_safe := goodIn_r _ [519, 24, 15, 520, 521, 522, 23, 523, 76, 341, 342, 272, 343, 524, 433, 271, 273, 344, 345, 346, 347, 348, 349, 145, 2, 146, 266, 267, 268, 75, 269, 270, 80, 81, 82, 83, 274, 275, 276, 277, 350, 351, 352, 364, 365, 525, 246, 247, 45, 248, 133, 57, 58, 59, 353, 354, 355, 356, 358, 287, 288, 289, 526, 527, 528, 529, 724, 725, 726, 727, 728, 729, 764, 749, 750, 751, 752, 753, 754, 755, 756, 757, 758, 759, 760, 761, 781, 782, 783, 784, 785, 775, 776, 777, 778] (by decide +kernel) (by decide +kernel)
set_option maxRecDepth 20000 in
theorem gL_law_X8_safe : GoodIn wsL_law (wsV RL 85 RX8 yX8_safe wsX8_safe) := goodIn_app (goodIn_of _ (by decide +kernel)) ggL_law_X8_safe
set_option maxRecDepth 20000 in
theorem ggL_law_X9_safe : GoodIn wsL_law wsX9_safe := goodIn_r _ [533, 169, 225, 96, 239, 170, 171, 5, 172, 384, 385, 386, 387, 512, 513, 514, 515, 99, 392, 446, 447, 448, 299, 300, 301, 302, 298, 101, 102, 394, 395, 396, 397, 398, 393, 329, 330, 331, 332, 399, 400, 401, 402, 403, 253, 254, 255, 256, 303, 304, 305, 306, 404, 405, 406, 407, 730, 731, 732, 733, 734, 735, 736, 737, 738, 739, 740, 741, 742, 743, 744, 745, 746, 747, 748] (by decide +kernel) (by decide +kernel)
set_option maxRecDepth 20000 in
theorem gL_law_X9_safe : GoodIn wsL_law (wsV RL 88 RX9 yX9_safe wsX9_safe) := goodIn_app (goodIn_of _ (by decide +kernel)) ggL_law_X9_safe
set_option maxRecDepth 20000 in
theorem ggL_law_X8_firstMiss : GoodIn wsL_law wsX8_firstMiss := goodIn_r _ [537, 24, 15, 538, 539, 540, 23, 541, 76, 341, 342, 272, 343, 524, 344, 345, 346, 347, 348, 349, 145, 2, 146, 266, 267, 268, 75, 269, 270, 271, 273, 80, 81, 82, 83, 274, 275, 276, 277, 350, 351, 352, 353, 354, 355, 356, 358, 287, 288, 289, 364, 365, 525, 246, 247, 45, 248, 133, 57, 58, 59, 724, 725, 726, 727, 728, 729, 764, 749, 750, 751, 752, 753, 754, 755, 756, 757, 758, 759, 760, 761, 781, 782, 783, 784, 785, 775, 776, 777, 778] (by decide +kernel) (by decide +kernel)
set_option maxRecDepth 20000 in
theorem gL_law_X8_firstMiss : GoodIn wsL_law (wsV RL 89 RX8 yX8_firstMiss wsX8_firstMiss) := goodIn_app (goodIn_of _ (by decide +kernel)) ggL_law_X8_firstMiss
set_option maxRecDepth 20000 in
theorem ggL_law_X9_firstMiss : GoodIn wsL_law wsX9_firstMiss := goodIn_r _ [545, 169, 225, 96, 239, 398, 170, 171, 5, 172, 384, 385, 386, 387, 512, 513, 514, 515, 99, 392, 446, 447, 448, 299, 300, 301, 302, 298, 101, 102, 394, 395, 396, 397, 393, 329, 330, 331, 332, 399, 400, 401, 402, 403, 253, 254, 255, 256, 303, 304, 305, 306, 404, 405, 406, 407, 730, 731, 732, 733, 734, 735, 736, 737, 738, 739, 740, 741, 742, 743, 744, 745, 746, 747, 748] (by decide +kernel) (by decide +kernel)
set_option maxRecDepth 20000 in
theorem gL_law_X9_firstMiss : GoodIn wsL_law (wsV RL 92 RX9 yX9_firstMiss wsX9_firstMiss) := goodIn_app (goodIn_of _ (by decide +kernel)) ggL_law_X9_firstMiss
set_option maxRecDepth 20000 in
theorem ggL_law_X8_speedBits : GoodIn wsL_law wsX8_speedBits := goodIn_r _ [549, 15, 550, 551, 552, 49, 553, 489, 139, 490, 554, 342, 272, 343, 555, 486, 487, 488, 63, 145, 2, 146, 556, 557, 558, 559, 560, 724, 725, 726, 727, 728, 729, 749, 750, 751, 752, 753, 754, 755, 756, 757, 758, 759, 760, 761, 779, 780] (by decide +kernel) (by decide +kernel)
set_option maxRecDepth 20000 in
theorem gL_law_X8_speedBits : GoodIn wsL_law (wsV RL 93 RX8 yX8_speedBits wsX8_speedBits) := goodIn_app (goodIn_of _ (by decide +kernel)) ggL_law_X8_speedBits
set_option maxRecDepth 20000 in
theorem ggL_law_X9_speedBits : GoodIn wsL_law wsX9_speedBits := goodIn_r _ [564, 169, 96, 239, 565, 566, 567, 568, 569, 570, 571, 572, 573, 574, 575, 576, 730, 731, 732, 733, 734, 735, 736, 737, 738, 739, 740, 741, 742, 743, 744, 745, 746, 747, 748] (by decide +kernel) (by decide +kernel)
set_option maxRecDepth 20000 in
theorem gL_law_X9_speedBits : GoodIn wsL_law (wsV RL 96 RX9 yX9_speedBits wsX9_speedBits) := goodIn_app (goodIn_of _ (by decide +kernel)) ggL_law_X9_speedBits
set_option maxRecDepth 20000 in
theorem ggL_law_X8_undo : GoodIn wsL_law wsX8_undo := goodIn_r _ [580, 20, 15, 581, 582, 583, 19, 584, 159, 585, 69, 164, 113, 114, 14, 115, 42, 116, 117, 118, 119, 46, 50, 51, 52, 120, 121, 122, 123, 124, 125, 126, 127, 128, 129, 130, 45, 131, 57, 132, 58, 59, 133, 134, 135, 136, 49, 137, 63, 138, 139, 724, 725, 726, 727, 728, 729, 762, 763, 749, 750, 751, 752, 753, 754, 755, 756, 757, 758, 759, 760, 761, 775, 776, 777, 778, 779, 780] (by decide +kernel) (by decide +kernel)
set_option maxRecDepth 20000 in
theorem gL_law_X8_undo : GoodIn wsL_law (wsV RL 97 RX8 yX8_undo wsX8_undo) := goodIn_app (goodIn_of _ (by decide +kernel)) ggL_law_X8_undo
set_option maxRecDepth 20000 in
theorem ggL_law_X9_undo : GoodIn wsL_law wsX9_undo := goodIn_r _ [589, 184, 225, 96, 97, 730, 731, 732, 733, 734, 735, 736, 737, 738, 739, 740, 741, 742, 743, 744, 745, 746, 747, 748] (by decide +kernel) (by decide +kernel)
set_option maxRecDepth 20000 in
theorem gL_law_X9_undo : GoodIn wsL_law (wsV RL 100 RX9 yX9_undo wsX9_undo) := goodIn_app (goodIn_of _ (by decide +kernel)) ggL_law_X9_undo
set_option maxRecDepth 20000 in
theorem ggL_law_X8_type : GoodIn wsL_law wsX8_type := goodIn_r _ [593, 28, 594, 595, 596, 27, 597, 598, 599, 600, 88, 145, 2, 146, 724, 725, 726, 727, 728, 729, 765, 766, 767, 768, 769, 770] (by decide +kernel) (by decide +kernel)
set_option maxRecDepth 20000 in
theorem gL_law_X8_type : GoodIn wsL_law (wsV RL 101 RX8 yX8_type wsX8_type) := goodIn_app (goodIn_of _ (by decide +kernel)) ggL_law_X8_type
