set_option maxRecDepth 20000 in
theorem ggL_law_X8_admit : GoodIn wsL_law wsX8_admit := goodIn_r _ [193, 52, 51, 50, 53, 174, 175, 176, 5, 177, 152, 153, 154, 155, 621, 622, 623, 624, 625, 626, 627, 628, 629, 630, 631, 632, 633, 634, 635, 636, 637, 638, 639, 640, 641, 642, 643, 644, 645, 646, 647, 648, 649, 650, 651, 652, 653, 654, 655, 656, 657, 658, 659, 660, 661, 662, 663, 664, 665, 666, 667, 668] (by decide +kernel) (by decide +kernel)
set_option maxRecDepth 20000 in
theorem gL_law_X8_admit : GoodIn wsL_law (wsV RL 26 RX8 yX8_admit wsX8_admit) := goodIn_app (goodIn_of _ (by decide +kernel)) ggL_law_X8_admit
set_option maxRecDepth 20000 in
theorem ggL_law_X7_put : GoodIn wsL_law wsX7_put := goodIn_r _ [197, 198, 162, 163, 164, 2, 165, 88, 13, 91, 92, 93, 199, 200, 201, 90, 202, 203, 104, 204, 205, 206, 207, 208, 108, 113, 209, 210, 211, 212, 213, 214, 215, 216, 217, 218, 219, 220, 221, 222, 112, 223, 224, 127, 128, 129, 614, 615, 616, 617, 618, 619, 620, 678, 679, 680, 681, 682, 683, 684, 685, 686, 687, 688, 689, 690, 691, 692, 693, 694, 695, 696, 700, 701, 702, 703] (by decide +kernel) (by decide +kernel)
set_option maxRecDepth 20000 in
theorem gL_law_X7_put : GoodIn wsL_law (wsV RL 27 RX7 yX7_put wsX7_put) := goodIn_app (goodIn_of _ (by decide +kernel)) ggL_law_X7_put
set_option maxRecDepth 20000 in
theorem ggL_law_X8_put : GoodIn wsL_law wsX8_put := goodIn_r _ [228, 60, 229, 230, 174, 175, 176, 5, 177, 152, 231, 232, 233, 234, 59, 63, 49, 48, 50, 235, 236, 237, 238, 239, 240, 241, 242, 64, 243, 244, 245, 246, 41, 42, 621, 622, 623, 624, 625, 626, 627, 628, 629, 630, 631, 632, 633, 634, 635, 636, 637, 638, 639, 640, 641, 642, 643, 644, 645, 646, 647, 648, 649, 650, 651, 652, 653, 654, 655, 656, 657, 658, 659, 660, 661, 662, 663, 664, 665, 666, 667, 668] (by decide +kernel) (by decide +kernel)
set_option maxRecDepth 20000 in
theorem gL_law_X8_put : GoodIn wsL_law (wsV RL 31 RX8 yX8_put wsX8_put) := goodIn_app (goodIn_of _ (by decide +kernel)) ggL_law_X8_put
set_option maxRecDepth 20000 in
theorem ggL_law_X7_prepare : GoodIn wsL_law wsX7_prepare := goodIn_r _ [250, 251, 252, 162, 163, 164, 2, 165, 88, 13, 91, 92, 93, 253, 206, 207, 90, 208, 108, 113, 209, 210, 678, 679, 680, 681, 682, 683, 684, 685, 686, 687, 688, 689, 690, 691, 692, 693, 694, 695, 696, 614, 615, 616, 617, 618, 619, 620, 700, 701, 702, 703] (by decide +kernel) (by decide +kernel)
set_option maxRecDepth 20000 in
theorem gL_law_X7_prepare : GoodIn wsL_law (wsV RL 32 RX7 yX7_prepare wsX7_prepare) := goodIn_app (goodIn_of _ (by decide +kernel)) ggL_law_X7_prepare
set_option maxRecDepth 20000 in
theorem ggL_law_X8_prepare : GoodIn wsL_law wsX8_prepare := goodIn_r _ [257, 59, 63, 49, 48, 174, 175, 176, 5, 177, 152, 153, 154, 155, 621, 622, 623, 624, 625, 626, 627, 628, 629, 630, 631, 632, 633, 634, 635, 636, 637, 638, 639, 640, 641, 642, 643, 644, 645, 646, 647, 648, 649, 650, 651, 652, 653, 654, 655, 656, 657, 658, 659, 660, 661, 662, 663, 664, 665, 666, 667, 668] (by decide +kernel) (by decide +kernel)
set_option maxRecDepth 20000 in
theorem gL_law_X8_prepare : GoodIn wsL_law (wsV RL 35 RX8 yX8_prepare wsX8_prepare) := goodIn_app (goodIn_of _ (by decide +kernel)) ggL_law_X8_prepare
set_option maxRecDepth 20000 in
theorem ggL_law_X7_commit : GoodIn wsL_law wsX7_commit := goodIn_r _ [261, 252, 251, 215, 262, 198, 162, 163, 164, 2, 165, 88, 13, 91, 92, 93, 211, 212, 213, 214, 263, 221, 222, 112, 223, 224, 127, 128, 129, 678, 679, 680, 681, 682, 683, 684, 685, 686, 687, 688, 689, 690, 691, 692, 693, 694, 695, 696, 614, 615, 616, 617, 618, 619, 620, 700, 701, 702, 703] (by decide +kernel) (by decide +kernel)
set_option maxRecDepth 20000 in
theorem gL_law_X7_commit : GoodIn wsL_law (wsV RL 36 RX7 yX7_commit wsX7_commit) := goodIn_app (goodIn_of _ (by decide +kernel)) ggL_law_X7_commit
set_option maxRecDepth 20000 in
theorem ggL_law_X8_commit : GoodIn wsL_law wsX8_commit := goodIn_r _ [267, 49, 59, 229, 230, 174, 175, 176, 5, 177, 152, 243, 244, 245, 246, 41, 42, 239, 240, 241, 242, 64, 63, 621, 622, 623, 624, 625, 626, 627, 628, 629, 630, 631, 632, 633, 634, 635, 636, 637, 638, 639, 640, 641, 642, 643, 644, 645, 646, 647, 648, 649, 650, 651, 652, 653, 654, 655, 656, 657, 658, 659, 660, 661, 662, 663, 664, 665, 666, 667, 668] (by decide +kernel) (by decide +kernel)
set_option maxRecDepth 20000 in
theorem gL_law_X8_commit : GoodIn wsL_law (wsV RL 39 RX8 yX8_commit wsX8_commit) := goodIn_app (goodIn_of _ (by decide +kernel)) ggL_law_X8_commit
