/-! LAW: the words of what it calls (3) -/
set_option maxRecDepth 20000 in
theorem ggL_law_X3_word : GoodIn wsL_law wsX3_word := goodIn_r _ [636, 15, 163, 637, 164, 638, 639, 143, 144, 145, 14, 146, 70, 60, 61, 2, 62, 165, 166, 167, 33, 168, 94, 95, 96, 97, 640, 458, 459, 460, 110, 87, 30, 107, 450, 451, 448, 452, 461, 462, 463, 464, 465, 466, 467, 468, 469, 470, 471, 472, 100, 93, 99, 473, 474, 475, 476, 31, 477, 768, 769, 770, 771, 772, 786, 787, 788, 789, 790, 791, 792, 798, 799, 800, 801, 802, 803, 804, 805, 806] (by decide +kernel) (by decide +kernel)
set_option maxRecDepth 20000 in
theorem gL_law_X3_word : GoodIn wsL_law (wsV RL 73 RX3 yX3_word wsX3_word) := goodIn_app (goodIn_of _ (by decide +kernel)) ggL_law_X3_word
set_option maxRecDepth 20000 in
theorem ggL_law_X4_word : GoodIn wsL_law wsX4_word := goodIn_r _ [644, 54, 508, 155, 156, 157, 5, 158, 48, 117, 118, 119, 177, 178, 179, 180, 517, 518, 519, 520, 645, 646, 647, 648, 528, 529, 530, 531, 532, 533, 534, 535, 536, 537, 538, 539, 540, 541, 542, 543, 544, 545, 546, 547, 548, 549, 550, 551, 552, 773, 774, 775, 776, 777, 778, 779, 780, 781, 782, 783, 784, 785] (by decide +kernel) (by decide +kernel)
set_option maxRecDepth 20000 in
theorem gL_law_X4_word : GoodIn wsL_law (wsV RL 77 RX4 yX4_word wsX4_word) := goodIn_app (goodIn_of _ (by decide +kernel)) ggL_law_X4_word
set_option maxRecDepth 20000 in
theorem ggL_law_X3_letter : GoodIn wsL_law wsX3_letter := goodIn_r _ [652, 15, 163, 637, 653, 143, 144, 145, 14, 146, 70, 768, 769, 770, 771, 772, 786, 787, 788, 789, 790, 791, 792, 798, 799, 800, 801, 802, 803, 804, 805, 806] (by decide +kernel) (by decide +kernel)
set_option maxRecDepth 20000 in
theorem gL_law_X3_letter : GoodIn wsL_law (wsV RL 78 RX3 yX3_letter wsX3_letter) := goodIn_app (goodIn_of _ (by decide +kernel)) ggL_law_X3_letter
set_option maxRecDepth 20000 in
theorem ggL_law_X4_letter : GoodIn wsL_law wsX4_letter := goodIn_r _ [657, 54, 155, 156, 157, 5, 158, 48, 117, 118, 119, 177, 178, 179, 180, 773, 774, 775, 776, 777, 778, 779, 780, 781, 782, 783, 784, 785] (by decide +kernel) (by decide +kernel)
set_option maxRecDepth 20000 in
theorem gL_law_X4_letter : GoodIn wsL_law (wsV RL 81 RX4 yX4_letter wsX4_letter) := goodIn_app (goodIn_of _ (by decide +kernel)) ggL_law_X4_letter
set_option maxRecDepth 20000 in
theorem ggL_law_X3_shot : GoodIn wsL_law wsX3_shot := goodIn_r _ [661, 15, 189, 662, 768, 769, 770, 771, 772, 786, 787, 788, 789, 790, 791, 792] (by decide +kernel) (by decide +kernel)
set_option maxRecDepth 20000 in
theorem gL_law_X3_shot : GoodIn wsL_law (wsV RL 82 RX3 yX3_shot wsX3_shot) := goodIn_app (goodIn_of _ (by decide +kernel)) ggL_law_X3_shot
set_option maxRecDepth 20000 in
theorem ggL_law_X4_shot : GoodIn wsL_law wsX4_shot := goodIn_r _ [666, 54, 48, 773, 774, 775, 776, 777, 778, 779, 780, 781, 782, 783, 784, 785] (by decide +kernel) (by decide +kernel)
set_option maxRecDepth 20000 in
theorem gL_law_X4_shot : GoodIn wsL_law (wsV RL 85 RX4 yX4_shot wsX4_shot) := goodIn_app (goodIn_of _ (by decide +kernel)) ggL_law_X4_shot
set_option maxRecDepth 20000 in
theorem ggL_law_X3_where : GoodIn wsL_law wsX3_where := goodIn_r _ [670, 15, 163, 143, 144, 145, 14, 146, 70, 671, 672, 2, 673, 60, 61, 62, 674, 675, 676, 677, 111, 107, 457, 458, 459, 460, 110, 87, 30, 450, 451, 448, 452, 461, 462, 463, 33, 464, 94, 95, 96, 465, 466, 467, 468, 469, 470, 471, 472, 97, 100, 93, 99, 473, 474, 475, 476, 31, 477, 678, 483, 484, 485, 445, 486, 487, 488, 489, 679, 491, 492, 493, 494, 768, 769, 770, 771, 772, 786, 787, 788, 789, 790, 791, 792, 798, 799, 800, 801, 802, 803, 804, 805, 806] (by decide +kernel) (by decide +kernel)
set_option maxRecDepth 20000 in
theorem gL_law_X3_where : GoodIn wsL_law (wsV RL 86 RX3 yX3_where wsX3_where) := goodIn_app (goodIn_of _ (by decide +kernel)) ggL_law_X3_where
set_option maxRecDepth 20000 in
theorem ggL_law_X4_where : GoodIn wsL_law wsX4_where := goodIn_r _ [683, 54, 684, 155, 156, 157, 5, 158, 48, 117, 118, 119, 685, 686, 687, 688, 528, 529, 530, 531, 508, 517, 518, 519, 520, 177, 178, 179, 180, 532, 533, 534, 535, 536, 537, 538, 539, 540, 541, 542, 543, 544, 545, 546, 547, 548, 549, 550, 551, 552, 773, 774, 775, 776, 777, 778, 779, 780, 781, 782, 783, 784, 785] (by decide +kernel) (by decide +kernel)
set_option maxRecDepth 20000 in
theorem gL_law_X4_where : GoodIn wsL_law (wsV RL 89 RX4 yX4_where wsX4_where) := goodIn_app (goodIn_of _ (by decide +kernel)) ggL_law_X4_where
set_option maxRecDepth 20000 in
theorem ggL_law_X3_written : GoodIn wsL_law wsX3_written := goodIn_r _ [692, 15, 60, 61, 2, 62, 671, 672, 673, 693, 694, 695, 14, 696, 70, 28, 106, 105, 697, 675, 676, 677, 111, 107, 457, 458, 459, 460, 110, 87, 30, 450, 451, 448, 452, 461, 462, 463, 33, 464, 94, 95, 96, 465, 466, 467, 468, 469, 470, 471, 472, 97, 100, 93, 99, 473, 474, 475, 476, 31, 477, 482, 483, 484, 485, 445, 486, 487, 488, 489, 490, 491, 492, 493, 494, 768, 769, 770, 771, 772, 786, 787, 788, 789, 790, 791, 792, 798, 799, 800, 801, 802, 803, 804, 805, 806] (by decide +kernel) (by decide +kernel)
set_option maxRecDepth 20000 in
theorem gL_law_X3_written : GoodIn wsL_law (wsV RL 90 RX3 yX3_written wsX3_written) := goodIn_app (goodIn_of _ (by decide +kernel)) ggL_law_X3_written
set_option maxRecDepth 20000 in
theorem ggL_law_X4_written : GoodIn wsL_law wsX4_written := goodIn_r _ [701, 54, 508, 684, 117, 118, 5, 119, 685, 686, 687, 688, 702, 703, 704, 705, 48, 540, 541, 542, 543, 177, 178, 179, 180, 544, 545, 546, 547, 548, 536, 537, 538, 539, 528, 529, 530, 531, 517, 518, 519, 520, 532, 533, 534, 535, 549, 550, 551, 552, 773, 774, 775, 776, 777, 778, 779, 780, 781, 782, 783, 784, 785] (by decide +kernel) (by decide +kernel)
set_option maxRecDepth 20000 in
theorem gL_law_X4_written : GoodIn wsL_law (wsV RL 93 RX4 yX4_written wsX4_written) := goodIn_app (goodIn_of _ (by decide +kernel)) ggL_law_X4_written
