set_option maxRecDepth 20000 in
theorem ggL_law_X7_init : GoodIn wsL_law wsX7_init := goodIn_r _ [8, 9, 10, 11, 12, 13, 14, 15, 16, 17, 18, 19, 20, 21, 22, 23, 24, 25, 26, 27, 28, 29, 30, 31, 32, 33, 34, 35, 614, 615, 616, 617, 618, 619, 620, 669, 670, 671, 672, 673, 674, 675, 676, 677] (by decide +kernel) (by decide +kernel)
set_option maxRecDepth 20000 in
theorem gL_law_X7_init : GoodIn wsL_law (wsX7_init) := ggL_law_X7_init
set_option maxRecDepth 20000 in
theorem ggL_law_X8_init : GoodIn wsL_law wsX8_init := goodIn_r _ [38, 39, 10, 11, 40, 25, 41, 42, 43, 44, 45, 46, 47, 48, 49, 50, 51, 52, 53, 54, 55, 56, 57, 58, 59, 60, 61, 62, 63, 64, 65, 66, 67, 68, 69, 70, 71, 72, 73, 74, 75, 76, 77, 78, 79, 80, 81, 82, 83, 621, 622, 623, 624, 625, 626, 627, 628, 629, 630, 631, 632, 633, 634, 635, 636, 637, 638, 639, 640, 641, 642, 643, 644, 645, 646, 647, 648, 649, 650, 651, 652, 653, 654, 655, 656, 657, 658, 659, 660, 661, 662, 663, 664, 665, 666, 667, 668] (by decide +kernel) (by decide +kernel)
set_option maxRecDepth 20000 in
theorem gL_law_X8_init : GoodIn wsL_law (wsX8_init) := ggL_law_X8_init
set_option maxRecDepth 20000 in
theorem ggL_law_X7_stage : GoodIn wsL_law wsX7_stage := goodIn_r _ [87, 88, 13, 12, 89, 90, 91, 92, 2, 93, 94, 95, 96, 97, 10, 11, 98, 99, 100, 101, 102, 103, 104, 105, 106, 107, 108, 109, 110, 111, 112, 113, 114, 115, 116, 117, 118, 119, 120, 25, 121, 122, 123, 124, 125, 126, 127, 128, 129, 130, 131, 132, 133, 134, 135, 136, 137, 138, 139, 140, 141, 142, 143, 144, 145, 146, 147, 614, 615, 616, 617, 618, 619, 620, 678, 679, 680, 681, 682, 683, 684, 685, 686, 687, 688, 689, 690, 691, 692, 693, 694, 695, 696, 697, 698, 699, 700, 701, 702, 703, 704, 705, 706, 707, 708, 709, 710, 711, 712, 713, 714] (by decide +kernel) (by decide +kernel)
set_option maxRecDepth 20000 in
theorem gL_law_X7_stage : GoodIn wsL_law (wsV RL 13 RX7 yX7_stage wsX7_stage) := goodIn_app (goodIn_of _ (by decide +kernel)) ggL_law_X7_stage
set_option maxRecDepth 20000 in
theorem ggL_law_X8_stage : GoodIn wsL_law wsX8_stage := goodIn_r _ [151, 152, 45, 46, 47, 48, 50, 51, 52, 55, 57, 56, 54, 153, 154, 5, 155, 621, 622, 623, 624, 625, 626, 627, 628, 629, 630, 631, 632, 633, 634, 635, 636, 637, 638, 639, 640, 641, 642, 643, 644, 645, 646, 647, 648, 649, 650, 651, 652, 653, 654, 655, 656, 657, 658, 659, 660, 661, 662, 663, 664, 665, 666, 667, 668] (by decide +kernel) (by decide +kernel)
set_option maxRecDepth 20000 in
theorem gL_law_X8_stage : GoodIn wsL_law (wsV RL 17 RX8 yX8_stage wsX8_stage) := goodIn_app (goodIn_of _ (by decide +kernel)) ggL_law_X8_stage
set_option maxRecDepth 20000 in
theorem ggL_law_X7_targets : GoodIn wsL_law wsX7_targets := goodIn_r _ [159, 160, 161, 162, 163, 164, 2, 165, 88, 13, 91, 92, 93, 166, 167, 168, 169, 678, 679, 680, 681, 682, 683, 684, 685, 686, 687, 688, 689, 690, 691, 692, 693, 694, 695, 696, 614, 615, 616, 617, 618, 619, 620] (by decide +kernel) (by decide +kernel)
set_option maxRecDepth 20000 in
theorem gL_law_X7_targets : GoodIn wsL_law (wsV RL 18 RX7 yX7_targets wsX7_targets) := goodIn_app (goodIn_of _ (by decide +kernel)) ggL_law_X7_targets
set_option maxRecDepth 20000 in
theorem ggL_law_X8_targets : GoodIn wsL_law wsX8_targets := goodIn_r _ [173, 46, 47, 174, 175, 176, 5, 177, 152, 621, 622, 623, 624, 625, 626, 627, 628, 629, 630, 631, 632, 633, 634, 635, 636, 637, 638, 639, 640, 641, 642, 643, 644, 645, 646, 647, 648, 649, 650, 651, 652, 653, 654, 655, 656, 657, 658, 659, 660, 661, 662, 663, 664, 665, 666, 667, 668] (by decide +kernel) (by decide +kernel)
set_option maxRecDepth 20000 in
theorem gL_law_X8_targets : GoodIn wsL_law (wsV RL 22 RX8 yX8_targets wsX8_targets) := goodIn_app (goodIn_of _ (by decide +kernel)) ggL_law_X8_targets
set_option maxRecDepth 20000 in
theorem ggL_law_X7_admit : GoodIn wsL_law wsX7_admit := goodIn_r _ [181, 182, 183, 184, 185, 186, 187, 188, 189, 162, 163, 164, 2, 165, 88, 13, 91, 92, 93, 678, 679, 680, 681, 682, 683, 684, 685, 686, 687, 688, 689, 690, 691, 692, 693, 694, 695, 696, 614, 615, 616, 617, 618, 619, 620] (by decide +kernel) (by decide +kernel)
set_option maxRecDepth 20000 in
theorem gL_law_X7_admit : GoodIn wsL_law (wsV RL 23 RX7 yX7_admit wsX7_admit) := goodIn_app (goodIn_of _ (by decide +kernel)) ggL_law_X7_admit
