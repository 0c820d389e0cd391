set_option maxRecDepth 20000 in
theorem ggL_law_X8_close : GoodIn wsL_law wsX8_close := goodIn_r _ [319, 59, 174, 175, 176, 5, 177, 152, 621, 622, 623, 624, 625, 626, 627, 628, 629, 630, 631, 632, 633, 634, 635, 636, 637, 638, 639, 640, 641, 642, 643, 644, 645, 646, 647, 648, 649, 650, 651, 652, 653, 654, 655, 656, 657, 658, 659, 660, 661, 662, 663, 664, 665, 666, 667, 668] (by decide +kernel) (by decide +kernel)
set_option maxRecDepth 20000 in
theorem gL_law_X8_close : GoodIn wsL_law (wsV RL 56 RX8 yX8_close wsX8_close) := goodIn_app (goodIn_of _ (by decide +kernel)) ggL_law_X8_close
set_option maxRecDepth 20000 in
theorem ggL_law_X7_tick : GoodIn wsL_law wsX7_tick := goodIn_r _ [323, 198, 91, 92, 2, 93, 324, 325, 326, 327, 88, 13, 328, 329, 330, 331, 332, 90, 333, 104, 102, 103, 334, 187, 188, 189, 335, 336, 337, 338, 17, 339, 340, 341, 342, 343, 344, 345, 346, 347, 211, 212, 213, 214, 215, 199, 200, 201, 202, 203, 204, 205, 206, 207, 208, 108, 113, 209, 210, 216, 217, 218, 219, 220, 221, 222, 112, 223, 224, 127, 128, 129, 348, 301, 302, 16, 303, 26, 28, 29, 30, 349, 350, 351, 352, 353, 354, 355, 356, 357, 358, 359, 360, 361, 362, 363, 364, 365, 366, 107, 367, 368, 369, 370, 371, 372, 373, 374, 375, 376, 377, 378, 137, 379, 380, 144, 145, 146, 381, 382, 383, 384, 385, 386, 387, 388, 389, 390, 391, 392, 393, 394, 395, 396, 397, 398, 399, 400, 401, 402, 403, 404, 21, 405, 406, 407, 408, 409, 100, 410, 411, 121, 412, 413, 414, 415, 416, 417, 418, 20, 419, 420, 34, 35, 421, 422, 423, 424, 425, 426, 427, 428, 429, 430, 25, 431, 432, 433, 434, 435, 436, 437, 147, 438, 439, 440, 441, 106, 109, 442, 443, 444, 445, 446, 447, 448, 449, 450, 451, 452, 453, 454, 455, 456, 457, 101, 458, 459, 460, 461, 462, 105, 115, 463, 464, 465, 466, 467, 468, 469, 470, 471, 472, 473, 474, 475, 476, 477, 478, 479, 480, 481, 482, 122, 614, 615, 616, 617, 618, 619, 620, 678, 679, 680, 681, 682, 683, 684, 685, 686, 687, 688, 689, 690, 691, 692, 693, 694, 695, 696, 669, 670, 671, 672, 673, 674, 700, 701, 702, 703, 704, 705, 706, 707, 708, 709, 710, 711, 712, 713, 714, 697, 698, 699, 675, 676, 677] (by decide +kernel) (by decide +kernel)
set_option maxRecDepth 20000 in
theorem gL_law_X7_tick : GoodIn wsL_law (wsV RL 57 RX7 yX7_tick wsX7_tick) := goodIn_app (goodIn_of _ (by decide +kernel)) ggL_law_X7_tick
set_option maxRecDepth 20000 in
theorem ggL_law_X7_told : GoodIn wsL_law wsX7_told := goodIn_r _ [528, 162, 163, 164, 2, 165, 88, 13, 91, 92, 93, 529, 530, 531, 90, 532, 113, 209, 210, 105, 106, 102, 104, 204, 533, 534, 101, 479, 480, 481, 100, 482, 411, 122, 121, 614, 615, 616, 617, 618, 619, 620, 678, 679, 680, 681, 682, 683, 684, 685, 686, 687, 688, 689, 690, 691, 692, 693, 694, 695, 696, 700, 701, 702, 703, 697, 698, 699] (by decide +kernel) (by decide +kernel)
set_option maxRecDepth 20000 in
theorem gL_law_X7_told : GoodIn wsL_law (wsV RL 61 RX7 yX7_told wsX7_told) := goodIn_app (goodIn_of _ (by decide +kernel)) ggL_law_X7_told
set_option maxRecDepth 20000 in
theorem ggL_law_X8_told : GoodIn wsL_law wsX8_told := goodIn_r _ [538, 63, 49, 54, 56, 52, 50, 60, 61, 62, 174, 175, 176, 5, 177, 152, 521, 522, 523, 524, 65, 66, 67, 621, 622, 623, 624, 625, 626, 627, 628, 629, 630, 631, 632, 633, 634, 635, 636, 637, 638, 639, 640, 641, 642, 643, 644, 645, 646, 647, 648, 649, 650, 651, 652, 653, 654, 655, 656, 657, 658, 659, 660, 661, 662, 663, 664, 665, 666, 667, 668] (by decide +kernel) (by decide +kernel)
set_option maxRecDepth 20000 in
theorem gL_law_X8_told : GoodIn wsL_law (wsV RL 64 RX8 yX8_told wsX8_told) := goodIn_app (goodIn_of _ (by decide +kernel)) ggL_law_X8_told
set_option maxRecDepth 20000 in
theorem ggL_law_X7_queued : GoodIn wsL_law wsX7_queued := goodIn_r _ [542, 262, 354, 405, 162, 163, 164, 2, 165, 88, 13, 91, 92, 93, 678, 679, 680, 681, 682, 683, 684, 685, 686, 687, 688, 689, 690, 691, 692, 693, 694, 695, 696, 700, 701, 702, 703, 614, 615, 616, 617, 618, 619, 620] (by decide +kernel) (by decide +kernel)
set_option maxRecDepth 20000 in
theorem gL_law_X7_queued : GoodIn wsL_law (wsV RL 65 RX7 yX7_queued wsX7_queued) := goodIn_app (goodIn_of _ (by decide +kernel)) ggL_law_X7_queued
set_option maxRecDepth 20000 in
theorem ggL_law_X8_queued : GoodIn wsL_law wsX8_queued := goodIn_r _ [546, 63, 64, 174, 175, 176, 5, 177, 152, 621, 622, 623, 624, 625, 626, 627, 628, 629, 630, 631, 632, 633, 634, 635, 636, 637, 638, 639, 640, 641, 642, 643, 644, 645, 646, 647, 648, 649, 650, 651, 652, 653, 654, 655, 656, 657, 658, 659, 660, 661, 662, 663, 664, 665, 666, 667, 668] (by decide +kernel) (by decide +kernel)
set_option maxRecDepth 20000 in
theorem gL_law_X8_queued : GoodIn wsL_law (wsV RL 68 RX8 yX8_queued wsX8_queued) := goodIn_app (goodIn_of _ (by decide +kernel)) ggL_law_X8_queued
