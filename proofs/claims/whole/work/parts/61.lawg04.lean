/-! LAW: the words of what it calls (4) -/
set_option maxRecDepth 20000 in
theorem ggL_law_X3_onScreen : GoodIn wsL_law wsX3_onScreen := goodIn_r _ [709, 15, 671, 672, 2, 673, 60, 61, 62, 710, 711, 712, 14, 713, 70, 28, 697, 675, 676, 677, 111, 107, 457, 458, 459, 460, 110, 87, 30, 450, 451, 448, 452, 461, 462, 463, 33, 464, 94, 95, 96, 465, 466, 467, 468, 469, 470, 471, 472, 97, 100, 93, 99, 473, 474, 475, 476, 31, 477, 768, 769, 770, 771, 772, 786, 787, 788, 789, 790, 791, 792, 798, 799, 800, 801, 802, 803, 804, 805, 806] (by decide +kernel) (by decide +kernel)
set_option maxRecDepth 20000 in
theorem gL_law_X3_onScreen : GoodIn wsL_law (wsV RL 94 RX3 yX3_onScreen wsX3_onScreen) := goodIn_app (goodIn_of _ (by decide +kernel)) ggL_law_X3_onScreen
set_option maxRecDepth 20000 in
theorem ggL_law_X4_onScreen : GoodIn wsL_law wsX4_onScreen := goodIn_r _ [717, 54, 48, 685, 686, 5, 687, 688, 117, 118, 119, 528, 529, 530, 531, 508, 517, 518, 519, 520, 177, 178, 179, 180, 532, 533, 534, 535, 536, 537, 538, 539, 540, 541, 542, 543, 544, 545, 546, 547, 548, 549, 550, 551, 552, 773, 774, 775, 776, 777, 778, 779, 780, 781, 782, 783, 784, 785] (by decide +kernel) (by decide +kernel)
set_option maxRecDepth 20000 in
theorem gL_law_X4_onScreen : GoodIn wsL_law (wsV RL 97 RX4 yX4_onScreen wsX4_onScreen) := goodIn_app (goodIn_of _ (by decide +kernel)) ggL_law_X4_onScreen
set_option maxRecDepth 20000 in
theorem ggL_law_X3_meeting : GoodIn wsL_law wsX3_meeting := goodIn_r _ [721, 15, 163, 143, 144, 145, 14, 146, 70, 722, 442, 443, 444, 111, 445, 107, 446, 447, 448, 449, 450, 451, 452, 453, 454, 455, 33, 456, 97, 457, 458, 459, 460, 110, 87, 30, 461, 462, 463, 464, 94, 95, 96, 465, 466, 467, 468, 469, 470, 471, 472, 100, 93, 99, 473, 474, 475, 476, 31, 477, 478, 479, 480, 481, 106, 482, 483, 484, 485, 486, 487, 488, 489, 490, 491, 492, 493, 494, 768, 769, 770, 771, 772, 786, 787, 788, 789, 790, 791, 792, 798, 799, 800, 801, 802, 803, 804, 805, 806] (by decide +kernel) (by decide +kernel)
set_option maxRecDepth 20000 in
theorem gL_law_X3_meeting : GoodIn wsL_law (wsV RL 98 RX3 yX3_meeting wsX3_meeting) := goodIn_app (goodIn_of _ (by decide +kernel)) ggL_law_X3_meeting
set_option maxRecDepth 20000 in
theorem ggL_law_X4_meeting : GoodIn wsL_law wsX4_meeting := goodIn_r _ [726, 54, 155, 156, 157, 5, 158, 48, 117, 118, 119, 521, 522, 523, 524, 177, 178, 179, 180, 525, 526, 527, 528, 529, 530, 531, 508, 517, 518, 519, 520, 532, 533, 534, 535, 536, 537, 538, 539, 540, 541, 542, 543, 544, 545, 546, 547, 548, 549, 550, 551, 552, 553, 554, 555, 556, 557, 558, 559, 773, 774, 775, 776, 777, 778, 779, 780, 781, 782, 783, 784, 785] (by decide +kernel) (by decide +kernel)
set_option maxRecDepth 20000 in
theorem gL_law_X4_meeting : GoodIn wsL_law (wsV RL 101 RX4 yX4_meeting wsX4_meeting) := goodIn_app (goodIn_of _ (by decide +kernel)) ggL_law_X4_meeting
set_option maxRecDepth 20000 in
theorem ggL_law_X3_pace : GoodIn wsL_law wsX3_pace := goodIn_r _ [730, 15, 671, 672, 2, 673, 60, 61, 62, 731, 732, 733, 14, 734, 70, 28, 108, 107, 106, 735, 768, 769, 770, 771, 772, 786, 787, 788, 789, 790, 791, 792, 798, 799, 800, 801, 802, 803, 804, 805, 806] (by decide +kernel) (by decide +kernel)
set_option maxRecDepth 20000 in
theorem gL_law_X3_pace : GoodIn wsL_law (wsV RL 102 RX3 yX3_pace wsX3_pace) := goodIn_app (goodIn_of _ (by decide +kernel)) ggL_law_X3_pace
set_option maxRecDepth 20000 in
theorem ggL_law_X4_pace : GoodIn wsL_law wsX4_pace := goodIn_r _ [739, 54, 48, 740, 685, 686, 5, 687, 688, 117, 118, 119, 177, 178, 179, 180, 773, 774, 775, 776, 777, 778, 779, 780, 781, 782, 783, 784, 785] (by decide +kernel) (by decide +kernel)
set_option maxRecDepth 20000 in
theorem gL_law_X4_pace : GoodIn wsL_law (wsV RL 105 RX4 yX4_pace wsX4_pace) := goodIn_app (goodIn_of _ (by decide +kernel)) ggL_law_X4_pace
set_option maxRecDepth 20000 in
theorem ggL_law_X3_earliest : GoodIn wsL_law wsX3_earliest := goodIn_r _ [744, 15, 163, 424, 425, 426, 427, 2, 428, 143, 144, 145, 14, 146, 70, 60, 61, 62, 429, 430, 431, 33, 432, 93, 433, 434, 435, 436, 34, 28, 107, 88, 89, 90, 91, 39, 92, 84, 85, 86, 94, 95, 96, 97, 98, 99, 100, 437, 438, 439, 440, 441, 442, 443, 444, 111, 445, 446, 447, 448, 449, 450, 451, 452, 453, 454, 455, 456, 457, 458, 459, 460, 110, 87, 30, 461, 462, 463, 464, 465, 466, 467, 468, 469, 470, 471, 472, 473, 474, 475, 476, 31, 477, 478, 479, 480, 481, 106, 482, 483, 484, 485, 486, 487, 488, 489, 490, 491, 492, 493, 494, 768, 769, 770, 771, 772, 786, 787, 788, 789, 790, 791, 792, 798, 799, 800, 801, 802, 803, 804, 805, 806] (by decide +kernel) (by decide +kernel)
set_option maxRecDepth 20000 in
theorem gL_law_X3_earliest : GoodIn wsL_law (wsV RL 106 RX3 yX3_earliest wsX3_earliest) := goodIn_app (goodIn_of _ (by decide +kernel)) ggL_law_X3_earliest
set_option maxRecDepth 20000 in
theorem ggL_law_X4_earliest : GoodIn wsL_law wsX4_earliest := goodIn_r _ [748, 54, 504, 505, 506, 5, 507, 508, 155, 156, 157, 158, 48, 117, 118, 119, 177, 178, 179, 180, 366, 367, 368, 369, 49, 509, 510, 511, 512, 135, 136, 137, 138, 513, 514, 515, 516, 517, 518, 519, 520, 521, 522, 523, 524, 525, 526, 527, 528, 529, 530, 531, 532, 533, 534, 535, 536, 537, 538, 539, 540, 541, 542, 543, 544, 545, 546, 547, 548, 549, 550, 551, 552, 553, 554, 555, 556, 557, 558, 559, 416, 417, 418, 419, 773, 774, 775, 776, 777, 778, 779, 780, 781, 782, 783, 784, 785] (by decide +kernel) (by decide +kernel)
set_option maxRecDepth 20000 in
theorem gL_law_X4_earliest : GoodIn wsL_law (wsV RL 109 RX4 yX4_earliest wsX4_earliest) := goodIn_app (goodIn_of _ (by decide +kernel)) ggL_law_X4_earliest
set_option maxRecDepth 20000 in
theorem ggL_law_X3_filled : GoodIn wsL_law wsX3_filled := goodIn_r _ [752, 15, 671, 672, 2, 673, 60, 61, 62, 753, 754, 755, 14, 756, 70, 28, 106, 450, 451, 448, 452, 446, 447, 449, 697, 675, 676, 677, 111, 107, 457, 458, 459, 460, 110, 87, 30, 461, 462, 463, 33, 464, 94, 95, 96, 465, 466, 467, 468, 469, 470, 471, 472, 97, 100, 93, 99, 473, 474, 475, 476, 31, 477, 482, 483, 484, 485, 445, 486, 487, 488, 489, 490, 491, 492, 493, 494, 757, 758, 759, 760, 761, 762, 763, 768, 769, 770, 771, 772, 786, 787, 788, 789, 790, 791, 792, 798, 799, 800, 801, 802, 803, 804, 805, 806] (by decide +kernel) (by decide +kernel)
set_option maxRecDepth 20000 in
theorem gL_law_X3_filled : GoodIn wsL_law (wsV RL 110 RX3 yX3_filled wsX3_filled) := goodIn_app (goodIn_of _ (by decide +kernel)) ggL_law_X3_filled
set_option maxRecDepth 20000 in
theorem ggL_law_X4_filled : GoodIn wsL_law wsX4_filled := goodIn_r _ [767, 54, 685, 686, 5, 687, 688, 117, 118, 119, 702, 703, 704, 705, 48, 540, 541, 542, 543, 177, 178, 179, 180, 544, 545, 546, 547, 548, 536, 537, 538, 539, 528, 529, 530, 531, 508, 517, 518, 519, 520, 532, 533, 534, 535, 549, 550, 551, 552, 773, 774, 775, 776, 777, 778, 779, 780, 781, 782, 783, 784, 785] (by decide +kernel) (by decide +kernel)
set_option maxRecDepth 20000 in
theorem gL_law_X4_filled : GoodIn wsL_law (wsV RL 113 RX4 yX4_filled wsX4_filled) := goodIn_app (goodIn_of _ (by decide +kernel)) ggL_law_X4_filled
