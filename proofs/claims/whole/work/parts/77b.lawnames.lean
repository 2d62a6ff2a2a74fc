/-! the law: words of its calls, 2 -/
set_option maxRecDepth 20000 in
theorem ggL_law_X9_dropLoad : GoodIn wsL_law wsX9_dropLoad := goodIn_r _ [224, 169, 96, 225, 179, 180, 181, 5, 182, 183, 184, 97, 730, 731, 732, 733, 734, 735, 736, 737, 738, 739, 740, 741, 742, 743, 744, 745, 746, 747, 748] (by decide +kernel) (by decide +kernel)
set_option maxRecDepth 20000 in
theorem gL_law_X9_dropLoad : GoodIn wsL_law (wsV RL 31 RX9 yX9_dropLoad wsX9_dropLoad) := goodIn_app (goodIn_of _ (by decide +kernel)) ggL_law_X9_dropLoad
set_option maxRecDepth 20000 in
theorem ggL_law_X8_loadOf : GoodIn wsL_law wsX8_loadOf := goodIn_r _ [229, 15, 230, 231, 232, 45, 233, 205, 133, 234, 57, 58, 59, 145, 2, 146, 724, 725, 726, 727, 728, 729, 749, 750, 751, 752, 753, 754, 755, 756, 757, 758, 759, 760, 761, 775, 776, 777, 778] (by decide +kernel) (by decide +kernel)
set_option maxRecDepth 20000 in
theorem gL_law_X8_loadOf : GoodIn wsL_law (wsV RL 32 RX8 yX8_loadOf wsX8_loadOf) := goodIn_app (goodIn_of _ (by decide +kernel)) ggL_law_X8_loadOf
set_option maxRecDepth 20000 in
theorem ggL_law_X9_loadOf : GoodIn wsL_law wsX9_loadOf := goodIn_r _ [238, 169, 96, 239, 170, 171, 5, 172, 730, 731, 732, 733, 734, 735, 736, 737, 738, 739, 740, 741, 742, 743, 744, 745, 746, 747, 748] (by decide +kernel) (by decide +kernel)
set_option maxRecDepth 20000 in
theorem gL_law_X9_loadOf : GoodIn wsL_law (wsV RL 35 RX9 yX9_loadOf wsX9_loadOf) := goodIn_app (goodIn_of _ (by decide +kernel)) ggL_law_X9_loadOf
set_option maxRecDepth 20000 in
theorem ggL_law_X8_loadAt : GoodIn wsL_law wsX8_loadAt := goodIn_r _ [243, 15, 154, 244, 145, 2, 146, 245, 246, 247, 45, 248, 133, 57, 58, 59, 724, 725, 726, 727, 728, 729, 749, 750, 751, 752, 753, 754, 755, 756, 757, 758, 759, 760, 761, 775, 776, 777, 778] (by decide +kernel) (by decide +kernel)
set_option maxRecDepth 20000 in
theorem gL_law_X8_loadAt : GoodIn wsL_law (wsV RL 36 RX8 yX8_loadAt wsX8_loadAt) := goodIn_app (goodIn_of _ (by decide +kernel)) ggL_law_X8_loadAt
set_option maxRecDepth 20000 in
theorem ggL_law_X9_loadAt : GoodIn wsL_law wsX9_loadAt := goodIn_r _ [252, 169, 170, 171, 5, 172, 253, 254, 255, 256, 96, 730, 731, 732, 733, 734, 735, 736, 737, 738, 739, 740, 741, 742, 743, 744, 745, 746, 747, 748] (by decide +kernel) (by decide +kernel)
set_option maxRecDepth 20000 in
theorem gL_law_X9_loadAt : GoodIn wsL_law (wsV RL 39 RX9 yX9_loadAt wsX9_loadAt) := goodIn_app (goodIn_of _ (by decide +kernel)) ggL_law_X9_loadAt
set_option maxRecDepth 20000 in
theorem ggL_law_X8_ramp : GoodIn wsL_law wsX8_ramp := goodIn_r _ [260, 154, 24, 15, 261, 244, 145, 2, 146, 262, 263, 264, 23, 265, 76, 266, 267, 268, 75, 269, 270, 271, 272, 273, 80, 81, 82, 83, 274, 275, 276, 277, 278, 279, 280, 281, 282, 283, 284, 285, 286, 287, 288, 289, 290, 291, 292, 293, 724, 725, 726, 727, 728, 729, 781, 782, 783, 784, 785, 764, 749, 750, 751, 752, 753, 754, 755, 756, 757, 758, 759, 760, 761] (by decide +kernel) (by decide +kernel)
set_option maxRecDepth 20000 in
theorem gL_law_X8_ramp : GoodIn wsL_law (wsV RL 40 RX8 yX8_ramp wsX8_ramp) := goodIn_app (goodIn_of _ (by decide +kernel)) ggL_law_X8_ramp
set_option maxRecDepth 20000 in
theorem ggL_law_X9_ramp : GoodIn wsL_law wsX9_ramp := goodIn_r _ [297, 169, 298, 239, 101, 102, 170, 171, 5, 172, 299, 300, 301, 302, 96, 303, 304, 305, 306, 730, 731, 732, 733, 734, 735, 736, 737, 738, 739, 740, 741, 742, 743, 744, 745, 746, 747, 748] (by decide +kernel) (by decide +kernel)
set_option maxRecDepth 20000 in
theorem gL_law_X9_ramp : GoodIn wsL_law (wsV RL 43 RX9 yX9_ramp wsX9_ramp) := goodIn_app (goodIn_of _ (by decide +kernel)) ggL_law_X9_ramp
set_option maxRecDepth 20000 in
theorem ggL_law_X8_top : GoodIn wsL_law wsX8_top := goodIn_r _ [310, 24, 15, 262, 263, 264, 23, 265, 76, 266, 267, 268, 75, 269, 270, 271, 272, 273, 80, 81, 82, 83, 274, 275, 276, 277, 724, 725, 726, 727, 728, 729, 781, 782, 783, 784, 785, 764, 749, 750, 751, 752, 753, 754, 755, 756, 757, 758, 759, 760, 761] (by decide +kernel) (by decide +kernel)
set_option maxRecDepth 20000 in
theorem gL_law_X8_top : GoodIn wsL_law (wsV RL 44 RX8 yX8_top wsX8_top) := goodIn_app (goodIn_of _ (by decide +kernel)) ggL_law_X8_top
set_option maxRecDepth 20000 in
theorem ggL_law_X9_top : GoodIn wsL_law wsX9_top := goodIn_r _ [314, 298, 299, 300, 301, 5, 302, 101, 96, 102, 730, 731, 732, 733, 734, 735, 736, 737, 738, 739, 740, 741, 742, 743, 744, 745, 746, 747, 748] (by decide +kernel) (by decide +kernel)
set_option maxRecDepth 20000 in
theorem gL_law_X9_top : GoodIn wsL_law (wsV RL 48 RX9 yX9_top wsX9_top) := goodIn_app (goodIn_of _ (by decide +kernel)) ggL_law_X9_top
