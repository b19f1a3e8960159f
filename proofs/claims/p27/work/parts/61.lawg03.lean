/-! LAW: the words of what it calls (3) -/
set_option maxRecDepth 20000 in
theorem ggL_isRight_X3_filled : GoodIn wsL_isRight wsX3_filled := goodIn_r _ [139, 6, 118, 119, 4, 120, 106, 107, 108, 140, 141, 142, 16, 143, 18, 19, 79, 35, 36, 33, 37, 31, 32, 34, 135, 122, 123, 124, 20, 30, 44, 45, 46, 47, 48, 49, 50, 51, 52, 53, 41, 54, 55, 56, 57, 58, 59, 60, 61, 62, 63, 64, 65, 43, 66, 67, 68, 69, 70, 71, 72, 73, 74, 80, 81, 82, 83, 29, 84, 85, 86, 87, 88, 89, 90, 91, 92, 144, 145, 146, 147, 148, 149, 150, 161, 162, 163, 164, 165, 166, 167, 168, 169, 170, 171, 172, 178, 179, 180, 181, 182, 183, 184, 185, 186] (by decide +kernel) (by decide +kernel)
set_option maxRecDepth 20000 in
theorem gL_isRight_X3_filled : GoodIn wsL_isRight (wsV RL 69 RX3 yX3_filled wsX3_filled) := goodIn_app (goodIn_of _ (by decide +kernel)) ggL_isRight_X3_filled
set_option maxRecDepth 20000 in
theorem ggL_isRight_X3_meeting : GoodIn wsL_isRight wsX3_meeting := goodIn_r _ [154, 6, 97, 102, 103, 104, 16, 105, 18, 155, 26, 27, 28, 20, 29, 30, 31, 32, 33, 34, 35, 36, 37, 38, 39, 40, 41, 42, 43, 44, 45, 46, 47, 48, 49, 50, 51, 52, 53, 54, 55, 56, 57, 58, 59, 60, 61, 62, 63, 64, 65, 66, 67, 68, 69, 70, 71, 72, 73, 74, 75, 76, 77, 78, 79, 80, 81, 82, 83, 84, 85, 86, 87, 88, 89, 90, 91, 92, 161, 162, 163, 164, 165, 166, 167, 168, 169, 170, 171, 172, 178, 179, 180, 181, 182, 183, 184, 185, 186] (by decide +kernel) (by decide +kernel)
set_option maxRecDepth 20000 in
theorem gL_isRight_X3_meeting : GoodIn wsL_isRight (wsV RL 72 RX3 yX3_meeting wsX3_meeting) := goodIn_app (goodIn_of _ (by decide +kernel)) ggL_isRight_X3_meeting
set_option maxRecDepth 20000 in
theorem ggL_isRight_X3_shot : GoodIn wsL_isRight wsX3_shot := goodIn_r _ [159, 6, 8, 160, 161, 162, 163, 164, 165, 166, 167, 168, 169, 170, 171, 172] (by decide +kernel) (by decide +kernel)
set_option maxRecDepth 20000 in
theorem gL_isRight_X3_shot : GoodIn wsL_isRight (wsV RL 25 RX3 yX3_shot wsX3_shot) := goodIn_app (goodIn_of _ (by decide +kernel)) ggL_isRight_X3_shot
set_option maxRecDepth 20000 in
theorem ggL_law_X3_init : GoodIn wsL_law wsX3_init := goodIn_r _ [5, 6, 7, 8, 9, 10, 11, 12, 13, 14, 15, 16, 17, 18, 19, 20, 21, 22, 23, 24, 25, 26, 27, 28, 29, 30, 31, 32, 33, 34, 35, 36, 37, 38, 39, 40, 466, 467, 468, 469, 470, 471, 472, 461, 462, 463, 464, 465, 473, 474, 475, 476, 477, 478, 479, 480, 481, 482, 483, 484, 485, 486] (by decide +kernel) (by decide +kernel)
set_option maxRecDepth 20000 in
theorem gL_law_X3_init : GoodIn wsL_law (wsX3_init) := ggL_law_X3_init
set_option maxRecDepth 20000 in
theorem ggL_law_L_cell : GoodIn wsL_law wsL_cell := goodIn_r _ [44] (by decide +kernel) (by decide +kernel)
set_option maxRecDepth 20000 in
theorem gL_law_L_cell : GoodIn wsL_law (va_wsS RL 76 yL_cell wsL_cell) := goodIn_app (goodIn_of _ (by decide +kernel)) ggL_law_L_cell
set_option maxRecDepth 20000 in
theorem ggL_law_L_low : GoodIn wsL_law wsL_low := goodIn_r _ [47, 48] (by decide +kernel) (by decide +kernel)
set_option maxRecDepth 20000 in
theorem gL_law_L_low : GoodIn wsL_law (va_wsS RL 28 yL_low wsL_low) := goodIn_app (goodIn_of _ (by decide +kernel)) ggL_law_L_low
