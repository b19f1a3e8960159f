/-! LAW: the words of what it calls (0) -/
set_option maxRecDepth 20000 in
theorem ggL_digest_X3_count : GoodIn wsL_digest wsX3_count := goodIn_r _ [7, 8, 9, 10, 11, 12, 13, 14, 15, 16, 17, 18, 19, 20, 21, 22, 23, 24, 25, 26, 27, 28, 29, 30, 31, 32, 33, 34, 35, 36, 37, 38, 39, 40, 41, 42, 43, 44, 45, 46, 47, 48, 49, 50, 51, 52, 53, 54, 55, 56, 57, 58, 59, 60, 61, 62, 63, 64, 65, 66, 67, 68, 69, 70, 71, 72, 73, 74, 75, 76, 77, 78, 79, 80, 81, 82, 83, 84, 85, 86, 87, 88, 89, 90, 91, 92, 93, 94, 126, 127, 128, 129, 130, 131, 132, 133, 134, 135, 136, 137, 138, 139, 140, 141, 142, 143, 144, 145, 146, 147, 148, 149, 150, 151] (by decide +kernel) (by decide +kernel)
set_option maxRecDepth 20000 in
theorem gL_digest_X3_count : GoodIn wsL_digest (wsV RL 12 RX3 yX3_count wsX3_count) := goodIn_app (goodIn_of _ (by decide +kernel)) ggL_digest_X3_count
set_option maxRecDepth 20000 in
theorem ggL_digest_X3_word : GoodIn wsL_digest wsX3_word := goodIn_r _ [98, 8, 99, 100, 101, 102, 103, 104, 105, 106, 18, 107, 20, 108, 109, 6, 110, 111, 112, 113, 43, 114, 57, 58, 59, 45, 115, 47, 48, 49, 50, 51, 52, 32, 37, 38, 35, 39, 53, 54, 55, 56, 60, 61, 62, 63, 64, 65, 66, 67, 68, 69, 70, 71, 72, 73, 74, 75, 76, 126, 127, 128, 129, 130, 131, 132, 133, 134, 135, 136, 137, 143, 144, 145, 146, 147, 148, 149, 150, 151] (by decide +kernel) (by decide +kernel)
set_option maxRecDepth 20000 in
theorem gL_digest_X3_word : GoodIn wsL_digest (wsV RL 18 RX3 yX3_word wsX3_word) := goodIn_app (goodIn_of _ (by decide +kernel)) ggL_digest_X3_word
set_option maxRecDepth 20000 in
theorem ggL_digest_X3_letter : GoodIn wsL_digest wsX3_letter := goodIn_r _ [119, 8, 99, 100, 120, 104, 105, 106, 18, 107, 20, 126, 127, 128, 129, 130, 131, 132, 133, 134, 135, 136, 137, 143, 144, 145, 146, 147, 148, 149, 150, 151] (by decide +kernel) (by decide +kernel)
set_option maxRecDepth 20000 in
theorem gL_digest_X3_letter : GoodIn wsL_digest (wsV RL 22 RX3 yX3_letter wsX3_letter) := goodIn_app (goodIn_of _ (by decide +kernel)) ggL_digest_X3_letter
set_option maxRecDepth 20000 in
theorem ggL_digest_X3_shot : GoodIn wsL_digest wsX3_shot := goodIn_r _ [124, 8, 10, 125, 126, 127, 128, 129, 130, 131, 132, 133, 134, 135, 136, 137] (by decide +kernel) (by decide +kernel)
set_option maxRecDepth 20000 in
theorem gL_digest_X3_shot : GoodIn wsL_digest (wsV RL 25 RX3 yX3_shot wsX3_shot) := goodIn_app (goodIn_of _ (by decide +kernel)) ggL_digest_X3_shot
set_option maxRecDepth 20000 in
theorem ggL_act_L_low : GoodIn wsL_act wsL_low := goodIn_r _ [4, 5] (by decide +kernel) (by decide +kernel)
set_option maxRecDepth 20000 in
theorem gL_act_L_low : GoodIn wsL_act (va_wsS RL 28 yL_low wsL_low) := goodIn_app (goodIn_of _ (by decide +kernel)) ggL_act_L_low
set_option maxRecDepth 20000 in
theorem ggL_act_X3_addWord : GoodIn wsL_act wsX3_addWord := goodIn_r _ [10, 11, 12, 13, 14, 9, 15, 16, 17, 18, 19, 20, 21, 22, 23, 24, 25, 26, 27, 28, 29, 30, 31, 32, 33, 34, 35, 36, 37, 38, 39, 40, 41, 42, 43, 44, 45, 46, 47, 48, 49, 50, 51, 52, 53, 54, 55, 56, 57, 58, 59, 60, 61, 62, 63, 64, 65, 66, 67, 68, 69, 70, 71, 72, 237, 238, 239, 240, 241, 242, 243, 244, 245, 246, 247, 248, 249, 250, 251, 252, 253, 254, 255, 256, 257] (by decide +kernel) (by decide +kernel)
set_option maxRecDepth 20000 in
theorem gL_act_X3_addWord : GoodIn wsL_act (wsV RL 33 RX3 yX3_addWord wsX3_addWord) := goodIn_app (goodIn_of _ (by decide +kernel)) ggL_act_X3_addWord
