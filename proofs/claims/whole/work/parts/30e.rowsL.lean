set_option maxRecDepth 20000 in
theorem ggL_law_X7_worker : GoodIn wsL_law wsX7_worker := goodIn_r _ [550, 328, 329, 162, 163, 164, 2, 165, 88, 13, 91, 92, 93, 551, 552, 553, 117, 554, 134, 555, 556, 138, 557, 558, 678, 679, 680, 681, 682, 683, 684, 685, 686, 687, 688, 689, 690, 691, 692, 693, 694, 695, 696, 614, 615, 616, 617, 618, 619, 620, 704, 705, 706, 707, 708, 700, 701, 702, 703, 709, 710, 711, 712, 713, 714] (by decide +kernel) (by decide +kernel)
set_option maxRecDepth 20000 in
theorem gL_law_X7_worker : GoodIn wsL_law (wsV RL 69 RX7 yX7_worker wsX7_worker) := goodIn_app (goodIn_of _ (by decide +kernel)) ggL_law_X7_worker
set_option maxRecDepth 20000 in
theorem ggL_law_X8_worker : GoodIn wsL_law wsX8_worker := goodIn_r _ [562, 54, 68, 70, 71, 72, 73, 174, 175, 176, 5, 177, 152, 621, 622, 623, 624, 625, 626, 627, 628, 629, 630, 631, 632, 633, 634, 635, 636, 637, 638, 639, 640, 641, 642, 643, 644, 645, 646, 647, 648, 649, 650, 651, 652, 653, 654, 655, 656, 657, 658, 659, 660, 661, 662, 663, 664, 665, 666, 667, 668] (by decide +kernel) (by decide +kernel)
set_option maxRecDepth 20000 in
theorem gL_law_X8_worker : GoodIn wsL_law (wsV RL 72 RX8 yX8_worker wsX8_worker) := goodIn_app (goodIn_of _ (by decide +kernel)) ggL_law_X8_worker
set_option maxRecDepth 20000 in
theorem ggL_law_X7_done : GoodIn wsL_law wsX7_done := goodIn_r _ [566, 21, 567, 568, 91, 92, 2, 93, 614, 615, 616, 617, 618, 619, 620, 675, 676, 677] (by decide +kernel) (by decide +kernel)
set_option maxRecDepth 20000 in
theorem gL_law_X7_done : GoodIn wsL_law (wsV RL 73 RX7 yX7_done wsX7_done) := goodIn_app (goodIn_of _ (by decide +kernel)) ggL_law_X7_done
set_option maxRecDepth 20000 in
theorem ggL_law_X8_done : GoodIn wsL_law wsX8_done := goodIn_r _ [572, 516, 44, 621, 622, 623, 624, 625, 626, 627, 628, 629, 630, 631, 632, 633, 634, 635, 636, 637, 638, 639, 640, 641, 642, 643, 644, 645, 646, 647, 648, 649, 650, 651, 652, 653, 654, 655, 656, 657, 658, 659, 660, 661, 662, 663, 664, 665, 666, 667, 668] (by decide +kernel) (by decide +kernel)
set_option maxRecDepth 20000 in
theorem gL_law_X8_done : GoodIn wsL_law (wsV RL 76 RX8 yX8_done wsX8_done) := goodIn_app (goodIn_of _ (by decide +kernel)) ggL_law_X8_done
set_option maxRecDepth 20000 in
theorem ggL_law_X7_value : GoodIn wsL_law wsX7_value := goodIn_r _ [576, 21, 567, 577, 91, 92, 2, 93, 614, 615, 616, 617, 618, 619, 620, 675, 676, 677] (by decide +kernel) (by decide +kernel)
set_option maxRecDepth 20000 in
theorem gL_law_X7_value : GoodIn wsL_law (wsV RL 77 RX7 yX7_value wsX7_value) := goodIn_app (goodIn_of _ (by decide +kernel)) ggL_law_X7_value
set_option maxRecDepth 20000 in
theorem ggL_law_X8_value : GoodIn wsL_law wsX8_value := goodIn_r _ [581, 516, 41, 44, 621, 622, 623, 624, 625, 626, 627, 628, 629, 630, 631, 632, 633, 634, 635, 636, 637, 638, 639, 640, 641, 642, 643, 644, 645, 646, 647, 648, 649, 650, 651, 652, 653, 654, 655, 656, 657, 658, 659, 660, 661, 662, 663, 664, 665, 666, 667, 668] (by decide +kernel) (by decide +kernel)
set_option maxRecDepth 20000 in
theorem gL_law_X8_value : GoodIn wsL_law (wsV RL 80 RX8 yX8_value wsX8_value) := goodIn_app (goodIn_of _ (by decide +kernel)) ggL_law_X8_value
set_option maxRecDepth 20000 in
theorem ggL_law_X7_events : GoodIn wsL_law wsX7_events := goodIn_r _ [585, 215, 614, 615, 616, 617, 618, 619, 620] (by decide +kernel) (by decide +kernel)
set_option maxRecDepth 20000 in
theorem gL_law_X7_events : GoodIn wsL_law (wsV RL 81 RX7 yX7_events wsX7_events) := goodIn_app (goodIn_of _ (by decide +kernel)) ggL_law_X7_events
