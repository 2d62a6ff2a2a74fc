/-! the law: words of its calls, 4 -/
set_option maxRecDepth 20000 in
theorem ggL_law_X8_moveOf : GoodIn wsL_law wsX8_moveOf := goodIn_r _ [121, 14, 122, 123, 124, 48, 125, 126, 127, 61, 128, 105, 2, 106, 376, 377, 378, 379, 380, 381, 382, 383, 384, 385, 386, 387, 388, 389, 390, 391, 392, 393, 394, 412, 413] (by decide +kernel) (by decide +kernel)
set_option maxRecDepth 20000 in
theorem gL_law_X8_moveOf : GoodIn wsL_law (wsV RL 97 RX8 yX8_moveOf wsX8_moveOf) := goodIn_app (goodIn_of _ (by decide +kernel)) ggL_law_X8_moveOf
