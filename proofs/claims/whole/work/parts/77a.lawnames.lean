/-! the law: words of its calls, 1 -/
set_option maxRecDepth 20000 in
theorem ggL_law_X8_init : GoodIn wsL_law wsX8_init := goodIn_r _ [8, 9, 10, 11, 12, 13, 14, 15, 16, 17, 18, 19, 20, 21, 22, 23, 24, 25, 26, 27, 28, 29, 30, 31, 32, 33, 34, 35, 36, 37, 38, 39, 40, 41, 42, 43, 44, 45, 46, 47, 48, 49, 50, 51, 52, 53, 54, 55, 56, 57, 58, 59, 60, 61, 62, 63, 64, 65, 66, 67, 68, 69, 70, 71, 72, 73, 74, 75, 76, 77, 78, 79, 80, 81, 82, 83, 84, 85, 86, 87, 88, 89, 90, 91, 749, 750, 751, 752, 753, 754, 755, 756, 757, 758, 759, 760, 761, 724, 725, 726, 727, 728, 729, 762, 763, 764, 765, 766, 767, 768, 769, 770, 771, 772, 773, 774, 775, 776, 777, 778, 779, 780, 781, 782, 783, 784, 785] (by decide +kernel) (by decide +kernel)
set_option maxRecDepth 20000 in
theorem gL_law_X8_init : GoodIn wsL_law (wsX8_init) := ggL_law_X8_init
set_option maxRecDepth 20000 in
theorem ggL_law_X9_init : GoodIn wsL_law wsX9_init := goodIn_r _ [94, 95, 10, 11, 56, 96, 97, 98, 99, 100, 101, 102, 103, 730, 731, 732, 733, 734, 735, 736, 737, 738, 739, 740, 741, 742, 743, 744, 745, 746, 747, 748] (by decide +kernel) (by decide +kernel)
set_option maxRecDepth 20000 in
theorem gL_law_X9_init : GoodIn wsL_law (wsX9_init) := ggL_law_X9_init
set_option maxRecDepth 20000 in
theorem ggL_law_X8_set : GoodIn wsL_law wsX8_set := goodIn_r _ [107, 108, 109, 110, 2, 111, 16, 15, 112, 113, 114, 14, 115, 42, 116, 117, 118, 119, 46, 50, 51, 52, 120, 121, 122, 123, 124, 125, 126, 127, 128, 129, 130, 45, 131, 57, 132, 58, 59, 133, 134, 135, 136, 49, 137, 63, 138, 139, 140, 141, 142, 143, 144, 145, 146, 147, 148, 149, 150, 20, 151, 152, 153, 154, 155, 156, 157, 19, 158, 159, 69, 160, 161, 162, 163, 164, 724, 725, 726, 727, 728, 729, 749, 750, 751, 752, 753, 754, 755, 756, 757, 758, 759, 760, 761, 775, 776, 777, 778, 779, 780, 762, 763] (by decide +kernel) (by decide +kernel)
set_option maxRecDepth 20000 in
theorem gL_law_X8_set : GoodIn wsL_law (wsV RL 13 RX8 yX8_set wsX8_set) := goodIn_app (goodIn_of _ (by decide +kernel)) ggL_law_X8_set
set_option maxRecDepth 20000 in
theorem ggL_law_X9_set : GoodIn wsL_law wsX9_set := goodIn_r _ [168, 169, 96, 170, 171, 5, 172, 173, 174, 175, 176, 177, 178, 179, 180, 181, 182, 183, 184, 97, 730, 731, 732, 733, 734, 735, 736, 737, 738, 739, 740, 741, 742, 743, 744, 745, 746, 747, 748] (by decide +kernel) (by decide +kernel)
set_option maxRecDepth 20000 in
theorem gL_law_X9_set : GoodIn wsL_law (wsV RL 17 RX9 yX9_set wsX9_set) := goodIn_app (goodIn_of _ (by decide +kernel)) ggL_law_X9_set
set_option maxRecDepth 20000 in
theorem ggL_law_X8_limits : GoodIn wsL_law wsX8_limits := goodIn_r _ [188, 108, 109, 110, 2, 111, 16, 15, 112, 113, 114, 14, 115, 42, 116, 117, 118, 119, 46, 50, 51, 52, 120, 121, 122, 123, 124, 125, 126, 127, 128, 129, 130, 45, 131, 57, 132, 58, 59, 133, 134, 135, 136, 49, 137, 63, 138, 139, 189, 190, 191, 192, 144, 145, 146, 147, 148, 149, 150, 20, 151, 152, 153, 154, 155, 156, 157, 19, 158, 159, 69, 160, 161, 162, 163, 164, 724, 725, 726, 727, 728, 729, 749, 750, 751, 752, 753, 754, 755, 756, 757, 758, 759, 760, 761, 775, 776, 777, 778, 779, 780, 762, 763] (by decide +kernel) (by decide +kernel)
set_option maxRecDepth 20000 in
theorem gL_law_X8_limits : GoodIn wsL_law (wsV RL 18 RX8 yX8_limits wsX8_limits) := goodIn_app (goodIn_of _ (by decide +kernel)) ggL_law_X8_limits
set_option maxRecDepth 20000 in
theorem ggL_law_X9_limits : GoodIn wsL_law wsX9_limits := goodIn_r _ [196, 169, 96, 170, 171, 5, 172, 179, 180, 181, 182, 183, 184, 97, 730, 731, 732, 733, 734, 735, 736, 737, 738, 739, 740, 741, 742, 743, 744, 745, 746, 747, 748] (by decide +kernel) (by decide +kernel)
set_option maxRecDepth 20000 in
theorem gL_law_X9_limits : GoodIn wsL_law (wsV RL 21 RX9 yX9_limits wsX9_limits) := goodIn_app (goodIn_of _ (by decide +kernel)) ggL_law_X9_limits
set_option maxRecDepth 20000 in
theorem ggL_law_X8_load : GoodIn wsL_law wsX8_load := goodIn_r _ [200, 108, 109, 110, 2, 111, 16, 15, 112, 113, 114, 14, 115, 42, 116, 117, 118, 119, 46, 50, 51, 52, 120, 121, 122, 123, 124, 125, 126, 127, 128, 129, 130, 45, 131, 57, 132, 58, 59, 133, 134, 135, 136, 49, 137, 63, 138, 139, 201, 202, 203, 204, 205, 206, 145, 146, 147, 148, 149, 150, 20, 151, 152, 153, 154, 155, 156, 157, 19, 158, 159, 69, 160, 161, 162, 163, 164, 749, 750, 751, 752, 753, 754, 755, 756, 757, 758, 759, 760, 761, 724, 725, 726, 727, 728, 729, 775, 776, 777, 778, 779, 780, 762, 763] (by decide +kernel) (by decide +kernel)
set_option maxRecDepth 20000 in
theorem gL_law_X8_load : GoodIn wsL_law (wsV RL 22 RX8 yX8_load wsX8_load) := goodIn_app (goodIn_of _ (by decide +kernel)) ggL_law_X8_load
set_option maxRecDepth 20000 in
theorem ggL_law_X9_load : GoodIn wsL_law wsX9_load := goodIn_r _ [210, 169, 96, 211, 170, 171, 5, 172, 179, 180, 181, 182, 183, 184, 97, 730, 731, 732, 733, 734, 735, 736, 737, 738, 739, 740, 741, 742, 743, 744, 745, 746, 747, 748] (by decide +kernel) (by decide +kernel)
set_option maxRecDepth 20000 in
theorem gL_law_X9_load : GoodIn wsL_law (wsV RL 26 RX9 yX9_load wsX9_load) := goodIn_app (goodIn_of _ (by decide +kernel)) ggL_law_X9_load
set_option maxRecDepth 20000 in
theorem ggL_law_X8_dropLoad : GoodIn wsL_law wsX8_dropLoad := goodIn_r _ [215, 108, 109, 110, 2, 111, 16, 15, 112, 113, 114, 14, 115, 42, 116, 117, 118, 119, 46, 50, 51, 52, 120, 121, 122, 123, 124, 125, 126, 127, 128, 129, 130, 45, 131, 57, 132, 58, 59, 133, 134, 135, 136, 49, 137, 63, 138, 139, 216, 217, 218, 219, 205, 220, 147, 148, 149, 150, 20, 151, 152, 153, 154, 155, 156, 157, 19, 158, 159, 69, 160, 161, 162, 163, 164, 749, 750, 751, 752, 753, 754, 755, 756, 757, 758, 759, 760, 761, 724, 725, 726, 727, 728, 729, 775, 776, 777, 778, 779, 780, 762, 763] (by decide +kernel) (by decide +kernel)
set_option maxRecDepth 20000 in
theorem gL_law_X8_dropLoad : GoodIn wsL_law (wsV RL 27 RX8 yX8_dropLoad wsX8_dropLoad) := goodIn_app (goodIn_of _ (by decide +kernel)) ggL_law_X8_dropLoad
