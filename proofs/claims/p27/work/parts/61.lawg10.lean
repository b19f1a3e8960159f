/-! LAW: the words of what it calls (10) -/
set_option maxRecDepth 20000 in
theorem gL_law_L_isRight : GoodIn wsL_law (va_wsS RL 88 yL_isRight wsL_isRight) := goodIn_app (goodIn_of _ (by decide +kernel)) ggL_law_L_isRight
set_option maxRecDepth 20000 in
theorem ggL_law_X3_undo : GoodIn wsL_law wsX3_undo := goodIn_r _ [351, 15, 12, 14, 73, 74, 75, 11, 76, 64, 25, 27, 77, 78, 79, 80, 81, 28, 82, 83, 84, 30, 85, 36, 86, 87, 88, 89, 90, 91, 92, 93, 94, 461, 462, 463, 464, 465, 466, 467, 468, 469, 470, 471, 472, 478, 479, 480, 481, 482, 483, 484, 485, 486] (by decide +kernel) (by decide +kernel)
set_option maxRecDepth 20000 in
theorem gL_law_X3_undo : GoodIn wsL_law (wsV RL 92 RX3 yX3_undo wsX3_undo) := goodIn_app (goodIn_of _ (by decide +kernel)) ggL_law_X3_undo
set_option maxRecDepth 20000 in
theorem ggL_law_X3_word : GoodIn wsL_law wsX3_word := goodIn_r _ [183, 12, 184, 185, 186, 187, 188, 189, 190, 191, 11, 192, 64, 54, 55, 2, 56, 193, 194, 195, 30, 196, 88, 89, 90, 91, 197, 143, 144, 145, 104, 81, 27, 101, 135, 136, 133, 137, 146, 147, 148, 149, 150, 151, 152, 153, 154, 155, 156, 157, 94, 87, 93, 158, 159, 160, 161, 28, 162, 461, 462, 463, 464, 465, 466, 467, 468, 469, 470, 471, 472, 478, 479, 480, 481, 482, 483, 484, 485, 486] (by decide +kernel) (by decide +kernel)
set_option maxRecDepth 20000 in
theorem gL_law_X3_word : GoodIn wsL_law (wsV RL 18 RX3 yX3_word wsX3_word) := goodIn_app (goodIn_of _ (by decide +kernel)) ggL_law_X3_word
set_option maxRecDepth 20000 in
theorem ggL_law_X3_earliest : GoodIn wsL_law wsX3_earliest := goodIn_r _ [355, 12, 184, 295, 296, 297, 298, 2, 299, 189, 190, 191, 11, 192, 64, 54, 55, 56, 300, 280, 281, 30, 282, 87, 301, 284, 285, 286, 31, 25, 101, 82, 83, 84, 85, 36, 86, 78, 79, 80, 88, 89, 90, 91, 92, 93, 94, 287, 288, 289, 290, 126, 127, 128, 129, 105, 130, 131, 132, 133, 134, 135, 136, 137, 138, 139, 140, 141, 142, 143, 144, 145, 104, 81, 27, 146, 147, 148, 149, 150, 151, 152, 153, 154, 155, 156, 157, 158, 159, 160, 161, 28, 162, 163, 164, 165, 166, 100, 167, 168, 169, 170, 171, 172, 173, 174, 175, 176, 177, 178, 179, 461, 462, 463, 464, 465, 466, 467, 468, 469, 470, 471, 472, 478, 479, 480, 481, 482, 483, 484, 485, 486] (by decide +kernel) (by decide +kernel)
set_option maxRecDepth 20000 in
theorem gL_law_X3_earliest : GoodIn wsL_law (wsV RL 95 RX3 yX3_earliest wsX3_earliest) := goodIn_app (goodIn_of _ (by decide +kernel)) ggL_law_X3_earliest
set_option maxRecDepth 20000 in
theorem ggL_law_X3_setWord : GoodIn wsL_law wsX3_setWord := goodIn_r _ [222, 12, 184, 186, 189, 190, 191, 11, 192, 64, 57, 58, 2, 59, 54, 55, 56, 65, 66, 67, 68, 15, 14, 69, 70, 71, 72, 73, 74, 75, 76, 25, 27, 77, 78, 79, 80, 81, 28, 82, 83, 84, 30, 85, 36, 86, 87, 88, 89, 90, 91, 92, 93, 94, 193, 194, 195, 196, 223, 224, 225, 226, 461, 462, 463, 464, 465, 466, 467, 468, 469, 470, 471, 472, 478, 479, 480, 481, 482, 483, 484, 485, 486] (by decide +kernel) (by decide +kernel)
set_option maxRecDepth 20000 in
theorem gL_law_X3_setWord : GoodIn wsL_law (wsV RL 40 RX3 yX3_setWord wsX3_setWord) := goodIn_app (goodIn_of _ (by decide +kernel)) ggL_law_X3_setWord
set_option maxRecDepth 20000 in
theorem ggL_law_X3_put : GoodIn wsL_law wsX3_put := goodIn_r _ [294, 12, 184, 295, 296, 297, 298, 2, 299, 189, 190, 191, 11, 192, 64, 54, 55, 56, 300, 280, 281, 30, 282, 87, 301, 284, 285, 286, 31, 25, 101, 82, 83, 84, 85, 36, 86, 78, 79, 80, 88, 89, 90, 91, 92, 93, 94, 287, 288, 289, 290, 126, 127, 128, 129, 105, 130, 131, 132, 133, 134, 135, 136, 137, 138, 139, 140, 141, 142, 143, 144, 145, 104, 81, 27, 146, 147, 148, 149, 150, 151, 152, 153, 154, 155, 156, 157, 158, 159, 160, 161, 28, 162, 163, 164, 165, 166, 100, 167, 168, 169, 170, 171, 172, 173, 174, 175, 176, 177, 178, 179, 65, 66, 67, 68, 15, 14, 69, 70, 71, 72, 73, 74, 75, 76, 77, 302, 118, 119, 120, 121, 461, 462, 463, 464, 465, 466, 467, 468, 469, 470, 471, 472, 478, 479, 480, 481, 482, 483, 484, 485, 486] (by decide +kernel) (by decide +kernel)
set_option maxRecDepth 20000 in
theorem gL_law_X3_put : GoodIn wsL_law (wsV RL 60 RX3 yX3_put wsX3_put) := goodIn_app (goodIn_of _ (by decide +kernel)) ggL_law_X3_put
set_option maxRecDepth 20000 in
theorem ggL_law_X3_addShot : GoodIn wsL_law wsX3_addShot := goodIn_r _ [230, 12, 115, 54, 55, 2, 56, 231, 232, 233, 11, 234, 81, 27, 235, 236, 237, 238, 65, 66, 67, 68, 15, 14, 69, 70, 71, 72, 73, 74, 75, 76, 64, 25, 77, 78, 79, 80, 28, 82, 83, 84, 30, 85, 36, 86, 87, 88, 89, 90, 91, 92, 93, 94, 239, 240, 241, 242, 461, 462, 463, 464, 465, 466, 467, 468, 469, 470, 471, 472, 478, 479, 480, 481, 482, 483, 484, 485, 486] (by decide +kernel) (by decide +kernel)
