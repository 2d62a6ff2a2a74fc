/-! the law: words of its calls, 4 -/
set_option maxRecDepth 20000 in
theorem ggL_law_X9_forget : GoodIn wsL_law wsX9_forget := goodIn_r _ [472, 96, 179, 180, 181, 5, 182, 183, 184, 97, 730, 731, 732, 733, 734, 735, 736, 737, 738, 739, 740, 741, 742, 743, 744, 745, 746, 747, 748] (by decide +kernel) (by decide +kernel)
set_option maxRecDepth 20000 in
theorem gL_law_X9_forget : GoodIn wsL_law (wsV RL 68 RX9 yX9_forget wsX9_forget) := goodIn_app (goodIn_of _ (by decide +kernel)) ggL_law_X9_forget
set_option maxRecDepth 20000 in
theorem ggL_law_X8_axis : GoodIn wsL_law wsX8_axis := goodIn_r _ [476, 15, 154, 724, 725, 726, 727, 728, 729, 749, 750, 751, 752, 753, 754, 755, 756, 757, 758, 759, 760, 761] (by decide +kernel) (by decide +kernel)
set_option maxRecDepth 20000 in
theorem gL_law_X8_axis : GoodIn wsL_law (wsV RL 69 RX8 yX8_axis wsX8_axis) := goodIn_app (goodIn_of _ (by decide +kernel)) ggL_law_X8_axis
set_option maxRecDepth 20000 in
theorem ggL_law_X9_axis : GoodIn wsL_law wsX9_axis := goodIn_r _ [480, 96, 169, 730, 731, 732, 733, 734, 735, 736, 737, 738, 739, 740, 741, 742, 743, 744, 745, 746, 747, 748] (by decide +kernel) (by decide +kernel)
set_option maxRecDepth 20000 in
theorem gL_law_X9_axis : GoodIn wsL_law (wsV RL 72 RX9 yX9_axis wsX9_axis) := goodIn_app (goodIn_of _ (by decide +kernel)) ggL_law_X9_axis
set_option maxRecDepth 20000 in
theorem ggL_law_X8_moveOf : GoodIn wsL_law wsX8_moveOf := goodIn_r _ [484, 15, 485, 486, 487, 49, 488, 489, 139, 63, 490, 145, 2, 146, 724, 725, 726, 727, 728, 729, 749, 750, 751, 752, 753, 754, 755, 756, 757, 758, 759, 760, 761, 779, 780] (by decide +kernel) (by decide +kernel)
set_option maxRecDepth 20000 in
theorem gL_law_X8_moveOf : GoodIn wsL_law (wsV RL 73 RX8 yX8_moveOf wsX8_moveOf) := goodIn_app (goodIn_of _ (by decide +kernel)) ggL_law_X8_moveOf
set_option maxRecDepth 20000 in
theorem ggL_law_X9_moveOf : GoodIn wsL_law wsX9_moveOf := goodIn_r _ [494, 169, 96, 239, 170, 171, 5, 172, 730, 731, 732, 733, 734, 735, 736, 737, 738, 739, 740, 741, 742, 743, 744, 745, 746, 747, 748] (by decide +kernel) (by decide +kernel)
set_option maxRecDepth 20000 in
theorem gL_law_X9_moveOf : GoodIn wsL_law (wsV RL 76 RX9 yX9_moveOf wsX9_moveOf) := goodIn_app (goodIn_of _ (by decide +kernel)) ggL_law_X9_moveOf
set_option maxRecDepth 20000 in
theorem ggL_law_X8_count : GoodIn wsL_law wsX8_count := goodIn_r _ [498, 15, 20, 28, 154, 244, 145, 2, 146, 724, 725, 726, 727, 728, 729, 749, 750, 751, 752, 753, 754, 755, 756, 757, 758, 759, 760, 761, 775, 776, 777, 778, 779, 780, 762, 763, 765, 766, 767, 768, 769, 770] (by decide +kernel) (by decide +kernel)
set_option maxRecDepth 20000 in
theorem gL_law_X8_count : GoodIn wsL_law (wsV RL 77 RX8 yX8_count wsX8_count) := goodIn_app (goodIn_of _ (by decide +kernel)) ggL_law_X8_count
set_option maxRecDepth 20000 in
theorem ggL_law_X9_count : GoodIn wsL_law wsX9_count := goodIn_r _ [502, 96, 184, 503, 169, 170, 171, 5, 172, 730, 731, 732, 733, 734, 735, 736, 737, 738, 739, 740, 741, 742, 743, 744, 745, 746, 747, 748] (by decide +kernel) (by decide +kernel)
set_option maxRecDepth 20000 in
theorem gL_law_X9_count : GoodIn wsL_law (wsV RL 80 RX9 yX9_count wsX9_count) := goodIn_app (goodIn_of _ (by decide +kernel)) ggL_law_X9_count
set_option maxRecDepth 20000 in
theorem ggL_law_X8_wouldMiss : GoodIn wsL_law wsX8_wouldMiss := goodIn_r _ [507, 24, 108, 109, 110, 2, 111, 16, 15, 112, 113, 114, 14, 115, 42, 116, 117, 118, 119, 46, 50, 51, 52, 120, 121, 122, 123, 124, 125, 126, 127, 128, 129, 130, 45, 131, 57, 132, 58, 59, 133, 134, 135, 136, 49, 137, 63, 138, 139, 337, 338, 339, 23, 340, 76, 341, 342, 272, 343, 344, 345, 346, 347, 348, 349, 145, 146, 266, 267, 268, 75, 269, 270, 271, 273, 80, 81, 82, 83, 274, 275, 276, 277, 350, 351, 352, 353, 354, 355, 356, 357, 279, 280, 281, 358, 287, 288, 289, 359, 360, 361, 362, 363, 364, 365, 366, 246, 247, 248, 367, 368, 369, 370, 371, 320, 321, 322, 323, 291, 292, 293, 324, 372, 373, 374, 375, 376, 377, 378, 379, 724, 725, 726, 727, 728, 729, 749, 750, 751, 752, 753, 754, 755, 756, 757, 758, 759, 760, 761, 775, 776, 777, 778, 779, 780, 764, 781, 782, 783, 784, 785] (by decide +kernel) (by decide +kernel)
set_option maxRecDepth 20000 in
theorem gL_law_X8_wouldMiss : GoodIn wsL_law (wsV RL 81 RX8 yX8_wouldMiss wsX8_wouldMiss) := goodIn_app (goodIn_of _ (by decide +kernel)) ggL_law_X8_wouldMiss
set_option maxRecDepth 20000 in
theorem ggL_law_X9_wouldMiss : GoodIn wsL_law wsX9_wouldMiss := goodIn_r _ [511, 169, 96, 225, 170, 171, 5, 172, 384, 385, 386, 387, 512, 513, 514, 515, 99, 392, 446, 447, 448, 299, 300, 301, 302, 298, 101, 102, 394, 395, 396, 397, 239, 398, 393, 329, 330, 331, 332, 399, 400, 401, 402, 403, 253, 254, 255, 256, 303, 304, 305, 306, 404, 405, 406, 407, 730, 731, 732, 733, 734, 735, 736, 737, 738, 739, 740, 741, 742, 743, 744, 745, 746, 747, 748] (by decide +kernel) (by decide +kernel)
set_option maxRecDepth 20000 in
theorem gL_law_X9_wouldMiss : GoodIn wsL_law (wsV RL 84 RX9 yX9_wouldMiss wsX9_wouldMiss) := goodIn_app (goodIn_of _ (by decide +kernel)) ggL_law_X9_wouldMiss
