/-! LAW: the words of what it calls (0) -/
set_option maxRecDepth 20000 in
theorem ggL_law_X3_init : GoodIn wsL_law wsX3_init := goodIn_r _ [8, 9, 10, 11, 12, 13, 14, 15, 16, 17, 18, 19, 20, 21, 22, 23, 24, 25, 26, 27, 28, 29, 30, 31, 32, 33, 34, 35, 36, 37, 38, 39, 40, 41, 42, 43, 786, 787, 788, 789, 790, 791, 792, 768, 769, 770, 771, 772, 793, 794, 795, 796, 797, 798, 799, 800, 801, 802, 803, 804, 805, 806] (by decide +kernel) (by decide +kernel)
set_option maxRecDepth 20000 in
theorem gL_law_X3_init : GoodIn wsL_law (wsX3_init) := ggL_law_X3_init
set_option maxRecDepth 20000 in
theorem ggL_law_X4_init : GoodIn wsL_law wsX4_init := goodIn_r _ [46, 47, 10, 11, 29, 48, 49, 50, 51, 52, 53, 54, 773, 774, 775, 776, 777, 778, 779, 780, 781, 782, 783, 784, 785] (by decide +kernel) (by decide +kernel)
set_option maxRecDepth 20000 in
theorem gL_law_X4_init : GoodIn wsL_law (wsX4_init) := ggL_law_X4_init
set_option maxRecDepth 20000 in
theorem ggL_law_X3_addWord : GoodIn wsL_law wsX3_addWord := goodIn_r _ [58, 15, 59, 60, 61, 2, 62, 63, 64, 65, 66, 67, 68, 14, 69, 70, 71, 72, 73, 74, 18, 17, 75, 76, 77, 78, 79, 80, 81, 82, 28, 30, 83, 84, 85, 86, 87, 31, 88, 89, 90, 33, 91, 39, 92, 93, 94, 95, 96, 97, 98, 99, 100, 101, 102, 103, 104, 105, 106, 107, 108, 109, 110, 111, 768, 769, 770, 771, 772, 786, 787, 788, 789, 790, 791, 792, 798, 799, 800, 801, 802, 803, 804, 805, 806] (by decide +kernel) (by decide +kernel)
set_option maxRecDepth 20000 in
theorem gL_law_X3_addWord : GoodIn wsL_law (wsV RL 13 RX3 yX3_addWord wsX3_addWord) := goodIn_app (goodIn_of _ (by decide +kernel)) ggL_law_X3_addWord
set_option maxRecDepth 20000 in
theorem ggL_law_X4_addWord : GoodIn wsL_law wsX4_addWord := goodIn_r _ [115, 54, 116, 48, 117, 118, 5, 119, 120, 121, 122, 123, 124, 125, 126, 127, 128, 129, 130, 50, 131, 132, 133, 134, 135, 136, 137, 138, 773, 774, 775, 776, 777, 778, 779, 780, 781, 782, 783, 784, 785] (by decide +kernel) (by decide +kernel)
set_option maxRecDepth 20000 in
theorem gL_law_X4_addWord : GoodIn wsL_law (wsV RL 17 RX4 yX4_addWord wsX4_addWord) := goodIn_app (goodIn_of _ (by decide +kernel)) ggL_law_X4_addWord
set_option maxRecDepth 20000 in
theorem ggL_law_X3_removeWord : GoodIn wsL_law wsX3_removeWord := goodIn_r _ [142, 15, 59, 143, 144, 145, 14, 146, 70, 71, 72, 73, 2, 74, 18, 17, 75, 76, 77, 78, 79, 80, 81, 82, 28, 30, 83, 84, 85, 86, 87, 31, 88, 89, 90, 33, 91, 39, 92, 93, 94, 95, 96, 97, 98, 99, 100, 147, 148, 149, 150, 768, 769, 770, 771, 772, 786, 787, 788, 789, 790, 791, 792, 798, 799, 800, 801, 802, 803, 804, 805, 806] (by decide +kernel) (by decide +kernel)
set_option maxRecDepth 20000 in
theorem gL_law_X3_removeWord : GoodIn wsL_law (wsV RL 18 RX3 yX3_removeWord wsX3_removeWord) := goodIn_app (goodIn_of _ (by decide +kernel)) ggL_law_X3_removeWord
set_option maxRecDepth 20000 in
theorem ggL_law_X4_removeWord : GoodIn wsL_law wsX4_removeWord := goodIn_r _ [154, 54, 48, 155, 156, 157, 5, 158, 117, 118, 119, 126, 127, 128, 129, 130, 50, 773, 774, 775, 776, 777, 778, 779, 780, 781, 782, 783, 784, 785] (by decide +kernel) (by decide +kernel)
set_option maxRecDepth 20000 in
theorem gL_law_X4_removeWord : GoodIn wsL_law (wsV RL 22 RX4 yX4_removeWord wsX4_removeWord) := goodIn_app (goodIn_of _ (by decide +kernel)) ggL_law_X4_removeWord
set_option maxRecDepth 20000 in
theorem ggL_law_X3_setWord : GoodIn wsL_law wsX3_setWord := goodIn_r _ [162, 15, 163, 164, 143, 144, 145, 14, 146, 70, 63, 64, 2, 65, 60, 61, 62, 71, 72, 73, 74, 18, 17, 75, 76, 77, 78, 79, 80, 81, 82, 28, 30, 83, 84, 85, 86, 87, 31, 88, 89, 90, 33, 91, 39, 92, 93, 94, 95, 96, 97, 98, 99, 100, 165, 166, 167, 168, 169, 170, 171, 172, 768, 769, 770, 771, 772, 786, 787, 788, 789, 790, 791, 792, 798, 799, 800, 801, 802, 803, 804, 805, 806] (by decide +kernel) (by decide +kernel)
set_option maxRecDepth 20000 in
theorem gL_law_X3_setWord : GoodIn wsL_law (wsV RL 23 RX3 yX3_setWord wsX3_setWord) := goodIn_app (goodIn_of _ (by decide +kernel)) ggL_law_X3_setWord
set_option maxRecDepth 20000 in
theorem ggL_law_X4_setWord : GoodIn wsL_law wsX4_setWord := goodIn_r _ [176, 54, 155, 156, 157, 5, 158, 48, 117, 118, 119, 120, 121, 122, 123, 124, 125, 126, 127, 128, 129, 130, 50, 177, 178, 179, 180, 135, 136, 137, 138, 181, 182, 183, 184, 773, 774, 775, 776, 777, 778, 779, 780, 781, 782, 783, 784, 785] (by decide +kernel) (by decide +kernel)
set_option maxRecDepth 20000 in
theorem gL_law_X4_setWord : GoodIn wsL_law (wsV RL 27 RX4 yX4_setWord wsX4_setWord) := goodIn_app (goodIn_of _ (by decide +kernel)) ggL_law_X4_setWord
set_option maxRecDepth 20000 in
theorem ggL_law_X3_addShot : GoodIn wsL_law wsX3_addShot := goodIn_r _ [188, 15, 189, 60, 61, 2, 62, 190, 191, 192, 14, 193, 87, 30, 194, 195, 196, 197, 71, 72, 73, 74, 18, 17, 75, 76, 77, 78, 79, 80, 81, 82, 70, 28, 83, 84, 85, 86, 31, 88, 89, 90, 33, 91, 39, 92, 93, 94, 95, 96, 97, 98, 99, 100, 198, 199, 200, 201, 768, 769, 770, 771, 772, 786, 787, 788, 789, 790, 791, 792, 798, 799, 800, 801, 802, 803, 804, 805, 806] (by decide +kernel) (by decide +kernel)
set_option maxRecDepth 20000 in
theorem gL_law_X3_addShot : GoodIn wsL_law (wsV RL 28 RX3 yX3_addShot wsX3_addShot) := goodIn_app (goodIn_of _ (by decide +kernel)) ggL_law_X3_addShot
set_option maxRecDepth 20000 in
theorem ggL_law_X4_addShot : GoodIn wsL_law wsX4_addShot := goodIn_r _ [205, 54, 206, 48, 117, 118, 5, 119, 207, 208, 209, 210, 126, 127, 128, 129, 130, 50, 211, 212, 213, 214, 773, 774, 775, 776, 777, 778, 779, 780, 781, 782, 783, 784, 785] (by decide +kernel) (by decide +kernel)
set_option maxRecDepth 20000 in
theorem gL_law_X4_addShot : GoodIn wsL_law (wsV RL 31 RX4 yX4_addShot wsX4_addShot) := goodIn_app (goodIn_of _ (by decide +kernel)) ggL_law_X4_addShot
