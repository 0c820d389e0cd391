set_option maxRecDepth 20000 in
theorem ggL8t_1 : GoodIn wsL_law (.code yX8_tick cX8_tick 3 (some .int) :: wsX8_tick_r1) := goodIn_r _ [486, 230, 153, 154, 5, 155, 487, 488, 489, 490, 152, 50, 52, 51, 54, 491, 492, 493, 494, 290, 83, 81, 82, 495, 243] (by decide +kernel) (by decide +kernel)
set_option maxRecDepth 20000 in
theorem ggL8t_2 : GoodIn wsL_law wsX8_tick_r2 := goodIn_r _ [244, 245, 246, 41, 229, 42, 308, 309, 310, 311, 80, 235, 236, 237, 238, 60, 231, 232, 233, 234, 59, 63, 49, 48] (by decide +kernel) (by decide +kernel)
set_option maxRecDepth 20000 in
theorem ggL8t_3 : GoodIn wsL_law wsX8_tick_r3 := goodIn_r _ [239, 240, 241, 242, 64, 496, 497, 498, 499, 68, 70, 56, 69, 57, 78, 79, 500, 501, 502, 503, 71, 73, 72, 77] (by decide +kernel) (by decide +kernel)
set_option maxRecDepth 20000 in
theorem ggL8t_4 : GoodIn wsL_law wsX8_tick_r4 := goodIn_r _ [74, 75, 76, 504, 505, 506, 507, 45, 46, 47, 508, 509, 510, 511, 512, 513, 514, 515, 61, 62, 44, 516, 65, 66] (by decide +kernel) (by decide +kernel)
set_option maxRecDepth 20000 in
theorem ggL8t_5 : GoodIn wsL_law wsX8_tick_r5 := goodIn_r _ [517, 518, 519, 520, 55, 53, 521, 522, 523, 524, 67] (by decide +kernel) (by decide +kernel)
set_option maxRecDepth 20000 in
theorem ggL8t_6 : GoodIn wsL_law wsX80 := goodIn_sub inlX8 (by decide +kernel)
theorem ggL_law_X8_tick : GoodIn wsL_law wsX8_tick := goodIn_ca (goodIn_ca ggL8t_1 (goodIn_app ggL8t_2 (goodIn_app ggL8t_3 (goodIn_app ggL8t_4 ggL8t_5)))) ggL8t_6
set_option maxRecDepth 20000 in
theorem gL_law_X8_tick : GoodIn wsL_law (wsV RL 60 RX8 yX8_tick wsX8_tick) := goodIn_app (goodIn_of _ (by decide +kernel)) ggL_law_X8_tick
