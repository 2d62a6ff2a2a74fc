/-! the law: words of its calls, 3 -/
set_option maxRecDepth 20000 in
theorem ggL_law_X8_loadOf : GoodIn wsL_law wsX8_loadOf := goodIn_r _ [110, 14, 111, 112, 113, 44, 114, 115, 116, 117, 55, 56, 57, 105, 2, 106, 376, 377, 378, 379, 380, 381, 382, 383, 384, 385, 386, 387, 388, 389, 390, 391, 392, 393, 394, 408, 409, 410, 411] (by decide +kernel) (by decide +kernel)
set_option maxRecDepth 20000 in
theorem gL_law_X8_loadOf : GoodIn wsL_law (wsV RL 94 RX8 yX8_loadOf wsX8_loadOf) := goodIn_app (goodIn_of _ (by decide +kernel)) ggL_law_X8_loadOf
