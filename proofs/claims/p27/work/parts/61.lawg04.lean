/-! LAW: the words of what it calls (4) -/
set_option maxRecDepth 20000 in
theorem ggL_law_X3_addWord : GoodIn wsL_law wsX3_addWord := goodIn_r _ [52, 12, 53, 54, 55, 2, 56, 57, 58, 59, 60, 61, 62, 11, 63, 64, 65, 66, 67, 68, 15, 14, 69, 70, 71, 72, 73, 74, 75, 76, 25, 27, 77, 78, 79, 80, 81, 28, 82, 83, 84, 30, 85, 36, 86, 87, 88, 89, 90, 91, 92, 93, 94, 95, 96, 97, 98, 99, 100, 101, 102, 103, 104, 105, 461, 462, 463, 464, 465, 466, 467, 468, 469, 470, 471, 472, 478, 479, 480, 481, 482, 483, 484, 485, 486] (by decide +kernel) (by decide +kernel)
set_option maxRecDepth 20000 in
theorem gL_law_X3_addWord : GoodIn wsL_law (wsV RL 33 RX3 yX3_addWord wsX3_addWord) := goodIn_app (goodIn_of _ (by decide +kernel)) ggL_law_X3_addWord
