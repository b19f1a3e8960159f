/-! LAW: the words of what it calls (2) -/
set_option maxRecDepth 20000 in
theorem ggL_law_X3_put : GoodIn wsL_law wsX3_put := goodIn_r _ [423, 15, 163, 424, 425, 426, 427, 2, 428, 143, 144, 145, 14, 146, 70, 60, 61, 62, 429, 430, 431, 33, 432, 93, 433, 434, 435, 436, 34, 28, 107, 88, 89, 90, 91, 39, 92, 84, 85, 86, 94, 95, 96, 97, 98, 99, 100, 437, 438, 439, 440, 441, 442, 443, 444, 111, 445, 446, 447, 448, 449, 450, 451, 452, 453, 454, 455, 456, 457, 458, 459, 460, 110, 87, 30, 461, 462, 463, 464, 465, 466, 467, 468, 469, 470, 471, 472, 473, 474, 475, 476, 31, 477, 478, 479, 480, 481, 106, 482, 483, 484, 485, 486, 487, 488, 489, 490, 491, 492, 493, 494, 71, 72, 73, 74, 18, 17, 75, 76, 77, 78, 79, 80, 81, 82, 83, 495, 496, 497, 498, 499, 768, 769, 770, 771, 772, 786, 787, 788, 789, 790, 791, 792, 798, 799, 800, 801, 802, 803, 804, 805, 806] (by decide +kernel) (by decide +kernel)
set_option maxRecDepth 20000 in
theorem gL_law_X3_put : GoodIn wsL_law (wsV RL 53 RX3 yX3_put wsX3_put) := goodIn_app (goodIn_of _ (by decide +kernel)) ggL_law_X3_put
set_option maxRecDepth 20000 in
theorem ggL_law_X4_put : GoodIn wsL_law wsX4_put := goodIn_r _ [503, 54, 504, 505, 506, 5, 507, 508, 155, 156, 157, 158, 48, 117, 118, 119, 177, 178, 179, 180, 366, 367, 368, 369, 49, 509, 510, 511, 512, 135, 136, 137, 138, 513, 514, 515, 516, 517, 518, 519, 520, 521, 522, 523, 524, 525, 526, 527, 528, 529, 530, 531, 532, 533, 534, 535, 536, 537, 538, 539, 540, 541, 542, 543, 544, 545, 546, 547, 548, 549, 550, 551, 552, 553, 554, 555, 556, 557, 558, 559, 416, 417, 418, 419, 126, 127, 128, 129, 130, 50, 560, 561, 562, 563, 773, 774, 775, 776, 777, 778, 779, 780, 781, 782, 783, 784, 785] (by decide +kernel) (by decide +kernel)
set_option maxRecDepth 20000 in
theorem gL_law_X4_put : GoodIn wsL_law (wsV RL 56 RX4 yX4_put wsX4_put) := goodIn_app (goodIn_of _ (by decide +kernel)) ggL_law_X4_put
set_option maxRecDepth 20000 in
theorem ggL_law_X3_take : GoodIn wsL_law wsX3_take := goodIn_r _ [567, 15, 163, 164, 143, 144, 145, 14, 146, 70, 71, 72, 73, 2, 74, 18, 17, 75, 76, 77, 78, 79, 80, 81, 82, 28, 30, 83, 84, 85, 86, 87, 31, 88, 89, 90, 33, 91, 39, 92, 93, 94, 95, 96, 97, 98, 99, 100, 496, 497, 498, 499, 111, 768, 769, 770, 771, 772, 786, 787, 788, 789, 790, 791, 792, 798, 799, 800, 801, 802, 803, 804, 805, 806] (by decide +kernel) (by decide +kernel)
set_option maxRecDepth 20000 in
theorem gL_law_X3_take : GoodIn wsL_law (wsV RL 57 RX3 yX3_take wsX3_take) := goodIn_app (goodIn_of _ (by decide +kernel)) ggL_law_X3_take
set_option maxRecDepth 20000 in
theorem ggL_law_X4_take : GoodIn wsL_law wsX4_take := goodIn_r _ [571, 54, 155, 156, 157, 5, 158, 48, 117, 118, 119, 517, 518, 519, 520, 177, 178, 179, 180, 126, 127, 128, 129, 130, 50, 181, 182, 183, 184, 135, 136, 137, 138, 560, 561, 562, 563, 773, 774, 775, 776, 777, 778, 779, 780, 781, 782, 783, 784, 785] (by decide +kernel) (by decide +kernel)
set_option maxRecDepth 20000 in
theorem gL_law_X4_take : GoodIn wsL_law (wsV RL 60 RX4 yX4_take wsX4_take) := goodIn_app (goodIn_of _ (by decide +kernel)) ggL_law_X4_take
set_option maxRecDepth 20000 in
theorem ggL_law_X3_putAll : GoodIn wsL_law wsX3_putAll := goodIn_r _ [575, 15, 59, 576, 71, 72, 73, 2, 74, 18, 17, 75, 76, 77, 78, 79, 80, 81, 14, 82, 70, 28, 30, 83, 84, 85, 86, 87, 31, 88, 89, 90, 33, 91, 39, 92, 93, 94, 95, 96, 97, 98, 99, 100, 577, 578, 579, 580, 111, 581, 582, 583, 584, 35, 585, 586, 587, 107, 106, 588, 589, 590, 591, 592, 430, 431, 432, 593, 434, 435, 436, 34, 437, 438, 439, 440, 441, 442, 443, 444, 445, 446, 447, 448, 449, 450, 451, 452, 453, 454, 455, 456, 457, 458, 459, 460, 110, 461, 462, 463, 464, 465, 466, 467, 468, 469, 470, 471, 472, 473, 474, 475, 476, 477, 478, 479, 480, 481, 482, 483, 484, 485, 486, 487, 488, 489, 490, 491, 492, 493, 494, 496, 497, 498, 499, 768, 769, 770, 771, 772, 786, 787, 788, 789, 790, 791, 792, 798, 799, 800, 801, 802, 803, 804, 805, 806] (by decide +kernel) (by decide +kernel)
set_option maxRecDepth 20000 in
theorem gL_law_X3_putAll : GoodIn wsL_law (wsV RL 61 RX3 yX3_putAll wsX3_putAll) := goodIn_app (goodIn_of _ (by decide +kernel)) ggL_law_X3_putAll
set_option maxRecDepth 20000 in
theorem ggL_law_X4_putAll : GoodIn wsL_law wsX4_putAll := goodIn_r _ [597, 54, 48, 53, 126, 127, 128, 5, 129, 130, 50, 181, 182, 183, 184, 135, 136, 137, 138, 598, 599, 600, 601, 177, 178, 179, 180, 602, 603, 604, 605, 606, 607, 608, 117, 118, 119, 509, 510, 511, 512, 513, 514, 515, 516, 517, 518, 519, 520, 521, 522, 523, 524, 525, 526, 527, 528, 529, 530, 531, 508, 532, 533, 534, 535, 536, 537, 538, 539, 540, 541, 542, 543, 544, 545, 546, 547, 548, 549, 550, 551, 552, 553, 554, 555, 556, 557, 558, 559, 560, 561, 562, 563, 773, 774, 775, 776, 777, 778, 779, 780, 781, 782, 783, 784, 785] (by decide +kernel) (by decide +kernel)
set_option maxRecDepth 20000 in
theorem gL_law_X4_putAll : GoodIn wsL_law (wsV RL 64 RX4 yX4_putAll wsX4_putAll) := goodIn_app (goodIn_of _ (by decide +kernel)) ggL_law_X4_putAll
set_option maxRecDepth 20000 in
theorem ggL_law_X3_undo : GoodIn wsL_law wsX3_undo := goodIn_r _ [612, 18, 15, 17, 79, 80, 81, 14, 82, 70, 28, 30, 83, 84, 85, 86, 87, 31, 88, 89, 90, 33, 91, 39, 92, 93, 94, 95, 96, 97, 98, 99, 100, 768, 769, 770, 771, 772, 786, 787, 788, 789, 790, 791, 792, 798, 799, 800, 801, 802, 803, 804, 805, 806] (by decide +kernel) (by decide +kernel)
set_option maxRecDepth 20000 in
theorem gL_law_X3_undo : GoodIn wsL_law (wsV RL 65 RX3 yX3_undo wsX3_undo) := goodIn_app (goodIn_of _ (by decide +kernel)) ggL_law_X3_undo
set_option maxRecDepth 20000 in
theorem ggL_law_X4_undo : GoodIn wsL_law wsX4_undo := goodIn_r _ [616, 54, 130, 48, 50, 773, 774, 775, 776, 777, 778, 779, 780, 781, 782, 783, 784, 785] (by decide +kernel) (by decide +kernel)
set_option maxRecDepth 20000 in
theorem gL_law_X4_undo : GoodIn wsL_law (wsV RL 68 RX4 yX4_undo wsX4_undo) := goodIn_app (goodIn_of _ (by decide +kernel)) ggL_law_X4_undo
set_option maxRecDepth 20000 in
theorem ggL_law_X3_count : GoodIn wsL_law wsX3_count := goodIn_r _ [620, 15, 59, 189, 231, 18, 22, 242, 496, 497, 498, 14, 499, 70, 28, 111, 621, 622, 623, 624, 441, 442, 443, 444, 445, 107, 446, 447, 448, 449, 450, 451, 452, 453, 454, 455, 33, 456, 97, 457, 458, 459, 460, 110, 87, 30, 461, 462, 463, 464, 94, 95, 96, 465, 466, 467, 468, 469, 470, 471, 472, 100, 93, 99, 473, 474, 475, 476, 31, 477, 478, 479, 480, 481, 106, 482, 483, 484, 485, 486, 487, 488, 489, 490, 491, 492, 493, 494, 768, 769, 770, 771, 772, 786, 787, 788, 789, 790, 791, 792, 793, 794, 795, 796, 797, 798, 799, 800, 801, 802, 803, 804, 805, 806] (by decide +kernel) (by decide +kernel)
set_option maxRecDepth 20000 in
theorem gL_law_X3_count : GoodIn wsL_law (wsV RL 69 RX3 yX3_count wsX3_count) := goodIn_app (goodIn_of _ (by decide +kernel)) ggL_law_X3_count
set_option maxRecDepth 20000 in
theorem ggL_law_X4_count : GoodIn wsL_law wsX4_count := goodIn_r _ [628, 54, 48, 130, 249, 560, 561, 562, 5, 563, 517, 518, 519, 520, 177, 178, 179, 180, 629, 630, 631, 632, 521, 522, 523, 524, 525, 526, 527, 528, 529, 530, 531, 508, 532, 533, 534, 535, 536, 537, 538, 539, 540, 541, 542, 543, 544, 545, 546, 547, 548, 549, 550, 551, 552, 117, 118, 119, 553, 554, 555, 556, 557, 558, 559, 773, 774, 775, 776, 777, 778, 779, 780, 781, 782, 783, 784, 785] (by decide +kernel) (by decide +kernel)
set_option maxRecDepth 20000 in
theorem gL_law_X4_count : GoodIn wsL_law (wsV RL 72 RX4 yX4_count wsX4_count) := goodIn_app (goodIn_of _ (by decide +kernel)) ggL_law_X4_count
