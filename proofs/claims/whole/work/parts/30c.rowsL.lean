set_option maxRecDepth 20000 in
theorem ggL_law_X7_abort : GoodIn wsL_law wsX7_abort := goodIn_r _ [271, 252, 162, 163, 164, 2, 165, 88, 13, 91, 92, 93, 678, 679, 680, 681, 682, 683, 684, 685, 686, 687, 688, 689, 690, 691, 692, 693, 694, 695, 696, 614, 615, 616, 617, 618, 619, 620] (by decide +kernel) (by decide +kernel)
set_option maxRecDepth 20000 in
theorem gL_law_X7_abort : GoodIn wsL_law (wsV RL 40 RX7 yX7_abort wsX7_abort) := goodIn_app (goodIn_of _ (by decide +kernel)) ggL_law_X7_abort
set_option maxRecDepth 20000 in
theorem ggL_law_X8_abort : GoodIn wsL_law wsX8_abort := goodIn_r _ [275, 49, 174, 175, 176, 5, 177, 152, 621, 622, 623, 624, 625, 626, 627, 628, 629, 630, 631, 632, 633, 634, 635, 636, 637, 638, 639, 640, 641, 642, 643, 644, 645, 646, 647, 648, 649, 650, 651, 652, 653, 654, 655, 656, 657, 658, 659, 660, 661, 662, 663, 664, 665, 666, 667, 668] (by decide +kernel) (by decide +kernel)
set_option maxRecDepth 20000 in
theorem gL_law_X8_abort : GoodIn wsL_law (wsV RL 44 RX8 yX8_abort wsX8_abort) := goodIn_app (goodIn_of _ (by decide +kernel)) ggL_law_X8_abort
set_option maxRecDepth 20000 in
theorem ggL_law_X7_timer : GoodIn wsL_law wsX7_timer := goodIn_r _ [279, 17, 198, 162, 163, 164, 2, 165, 88, 13, 91, 92, 93, 280, 281, 282, 16, 283, 284, 26, 285, 28, 29, 30, 614, 615, 616, 617, 618, 619, 620, 669, 670, 671, 672, 673, 674] (by decide +kernel) (by decide +kernel)
set_option maxRecDepth 20000 in
theorem gL_law_X7_timer : GoodIn wsL_law (wsV RL 45 RX7 yX7_timer wsX7_timer) := goodIn_app (goodIn_of _ (by decide +kernel)) ggL_law_X7_timer
set_option maxRecDepth 20000 in
theorem ggL_law_X8_timer : GoodIn wsL_law wsX8_timer := goodIn_r _ [289, 290, 80, 291, 81, 82, 83, 230, 174, 175, 176, 5, 177, 152, 153, 154, 155, 621, 622, 623, 624, 625, 626, 627, 628, 629, 630, 631, 632, 633, 634, 635, 636, 637, 638, 639, 640, 641, 642, 643, 644, 645, 646, 647, 648, 649, 650, 651, 652, 653, 654, 655, 656, 657, 658, 659, 660, 661, 662, 663, 664, 665, 666, 667, 668] (by decide +kernel) (by decide +kernel)
set_option maxRecDepth 20000 in
theorem gL_law_X8_timer : GoodIn wsL_law (wsV RL 48 RX8 yX8_timer wsX8_timer) := goodIn_app (goodIn_of _ (by decide +kernel)) ggL_law_X8_timer
set_option maxRecDepth 20000 in
theorem ggL_law_X7_cancel : GoodIn wsL_law wsX7_cancel := goodIn_r _ [295, 17, 296, 297, 298, 16, 299, 284, 26, 300, 301, 302, 303, 28, 29, 30, 614, 615, 616, 617, 618, 619, 620, 669, 670, 671, 672, 673, 674] (by decide +kernel) (by decide +kernel)
set_option maxRecDepth 20000 in
theorem gL_law_X7_cancel : GoodIn wsL_law (wsV RL 49 RX7 yX7_cancel wsX7_cancel) := goodIn_app (goodIn_of _ (by decide +kernel)) ggL_law_X7_cancel
set_option maxRecDepth 20000 in
theorem ggL_law_X8_cancel : GoodIn wsL_law wsX8_cancel := goodIn_r _ [307, 290, 80, 308, 309, 310, 5, 311, 81, 82, 83, 621, 622, 623, 624, 625, 626, 627, 628, 629, 630, 631, 632, 633, 634, 635, 636, 637, 638, 639, 640, 641, 642, 643, 644, 645, 646, 647, 648, 649, 650, 651, 652, 653, 654, 655, 656, 657, 658, 659, 660, 661, 662, 663, 664, 665, 666, 667, 668] (by decide +kernel) (by decide +kernel)
set_option maxRecDepth 20000 in
theorem gL_law_X8_cancel : GoodIn wsL_law (wsV RL 52 RX8 yX8_cancel wsX8_cancel) := goodIn_app (goodIn_of _ (by decide +kernel)) ggL_law_X8_cancel
set_option maxRecDepth 20000 in
theorem ggL_law_X7_close : GoodIn wsL_law wsX7_close := goodIn_r _ [315, 251, 162, 163, 164, 2, 165, 88, 13, 91, 92, 93, 678, 679, 680, 681, 682, 683, 684, 685, 686, 687, 688, 689, 690, 691, 692, 693, 694, 695, 696, 614, 615, 616, 617, 618, 619, 620] (by decide +kernel) (by decide +kernel)
set_option maxRecDepth 20000 in
theorem gL_law_X7_close : GoodIn wsL_law (wsV RL 53 RX7 yX7_close wsX7_close) := goodIn_app (goodIn_of _ (by decide +kernel)) ggL_law_X7_close
