set_option maxRecDepth 20000 in
theorem ggL_law_X8_events : GoodIn wsL_law wsX8_events := goodIn_r _ [589, 229, 621, 622, 623, 624, 625, 626, 627, 628, 629, 630, 631, 632, 633, 634, 635, 636, 637, 638, 639, 640, 641, 642, 643, 644, 645, 646, 647, 648, 649, 650, 651, 652, 653, 654, 655, 656, 657, 658, 659, 660, 661, 662, 663, 664, 665, 666, 667, 668] (by decide +kernel) (by decide +kernel)
set_option maxRecDepth 20000 in
theorem gL_law_X8_events : GoodIn wsL_law (wsV RL 85 RX8 yX8_events wsX8_events) := goodIn_app (goodIn_of _ (by decide +kernel)) ggL_law_X8_events
set_option maxRecDepth 20000 in
theorem ggL_law_X7_ended : GoodIn wsL_law wsX7_ended := goodIn_r _ [593, 21, 567, 614, 615, 616, 617, 618, 619, 620, 675, 676, 677] (by decide +kernel) (by decide +kernel)
set_option maxRecDepth 20000 in
theorem gL_law_X7_ended : GoodIn wsL_law (wsV RL 86 RX7 yX7_ended wsX7_ended) := goodIn_app (goodIn_of _ (by decide +kernel)) ggL_law_X7_ended
set_option maxRecDepth 20000 in
theorem ggL_law_X8_ended : GoodIn wsL_law wsX8_ended := goodIn_r _ [597, 516, 621, 622, 623, 624, 625, 626, 627, 628, 629, 630, 631, 632, 633, 634, 635, 636, 637, 638, 639, 640, 641, 642, 643, 644, 645, 646, 647, 648, 649, 650, 651, 652, 653, 654, 655, 656, 657, 658, 659, 660, 661, 662, 663, 664, 665, 666, 667, 668] (by decide +kernel) (by decide +kernel)
set_option maxRecDepth 20000 in
theorem gL_law_X8_ended : GoodIn wsL_law (wsV RL 89 RX8 yX8_ended wsX8_ended) := goodIn_app (goodIn_of _ (by decide +kernel)) ggL_law_X8_ended
set_option maxRecDepth 20000 in
theorem ggL_law_X7_lost : GoodIn wsL_law wsX7_lost := goodIn_r _ [601, 347, 614, 615, 616, 617, 618, 619, 620] (by decide +kernel) (by decide +kernel)
set_option maxRecDepth 20000 in
theorem gL_law_X7_lost : GoodIn wsL_law (wsV RL 90 RX7 yX7_lost wsX7_lost) := goodIn_app (goodIn_of _ (by decide +kernel)) ggL_law_X7_lost
set_option maxRecDepth 20000 in
theorem ggL_law_X8_lost : GoodIn wsL_law wsX8_lost := goodIn_r _ [605, 495, 621, 622, 623, 624, 625, 626, 627, 628, 629, 630, 631, 632, 633, 634, 635, 636, 637, 638, 639, 640, 641, 642, 643, 644, 645, 646, 647, 648, 649, 650, 651, 652, 653, 654, 655, 656, 657, 658, 659, 660, 661, 662, 663, 664, 665, 666, 667, 668] (by decide +kernel) (by decide +kernel)
set_option maxRecDepth 20000 in
theorem gL_law_X8_lost : GoodIn wsL_law (wsV RL 93 RX8 yX8_lost wsX8_lost) := goodIn_app (goodIn_of _ (by decide +kernel)) ggL_law_X8_lost
set_option maxRecDepth 20000 in
theorem ggL_law_X7_clock : GoodIn wsL_law wsX7_clock := goodIn_r _ [609, 198, 614, 615, 616, 617, 618, 619, 620] (by decide +kernel) (by decide +kernel)
set_option maxRecDepth 20000 in
theorem gL_law_X7_clock : GoodIn wsL_law (wsV RL 94 RX7 yX7_clock wsX7_clock) := goodIn_app (goodIn_of _ (by decide +kernel)) ggL_law_X7_clock
set_option maxRecDepth 20000 in
theorem ggL_law_X8_clock : GoodIn wsL_law wsX8_clock := goodIn_r _ [613, 230, 621, 622, 623, 624, 625, 626, 627, 628, 629, 630, 631, 632, 633, 634, 635, 636, 637, 638, 639, 640, 641, 642, 643, 644, 645, 646, 647, 648, 649, 650, 651, 652, 653, 654, 655, 656, 657, 658, 659, 660, 661, 662, 663, 664, 665, 666, 667, 668] (by decide +kernel) (by decide +kernel)
set_option maxRecDepth 20000 in
theorem gL_law_X8_clock : GoodIn wsL_law (wsV RL 97 RX8 yX8_clock wsX8_clock) := goodIn_app (goodIn_of _ (by decide +kernel)) ggL_law_X8_clock
