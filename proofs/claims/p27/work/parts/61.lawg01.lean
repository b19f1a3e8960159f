/-! LAW: the words of what it calls (1) -/
set_option maxRecDepth 20000 in
theorem ggL_act_X3_removeWord : GoodIn wsL_act wsX3_removeWord := goodIn_r _ [76, 11, 12, 77, 78, 79, 22, 80, 24, 25, 26, 27, 9, 28, 29, 30, 31, 32, 33, 34, 35, 36, 37, 38, 39, 40, 41, 42, 43, 44, 45, 46, 47, 48, 49, 50, 51, 52, 53, 54, 55, 56, 57, 58, 59, 60, 61, 81, 82, 83, 84, 237, 238, 239, 240, 241, 242, 243, 244, 245, 246, 247, 248, 249, 250, 251, 252, 253, 254, 255, 256, 257] (by decide +kernel) (by decide +kernel)
set_option maxRecDepth 20000 in
theorem gL_act_X3_removeWord : GoodIn wsL_act (wsV RL 37 RX3 yX3_removeWord wsX3_removeWord) := goodIn_app (goodIn_of _ (by decide +kernel)) ggL_act_X3_removeWord
set_option maxRecDepth 20000 in
theorem ggL_act_X3_setWord : GoodIn wsL_act wsX3_setWord := goodIn_r _ [88, 11, 89, 90, 77, 78, 79, 22, 80, 24, 16, 17, 9, 18, 13, 14, 15, 25, 26, 27, 28, 29, 30, 31, 32, 33, 34, 35, 36, 37, 38, 39, 40, 41, 42, 43, 44, 45, 46, 47, 48, 49, 50, 51, 52, 53, 54, 55, 56, 57, 58, 59, 60, 61, 91, 92, 93, 94, 95, 96, 97, 98, 237, 238, 239, 240, 241, 242, 243, 244, 245, 246, 247, 248, 249, 250, 251, 252, 253, 254, 255, 256, 257] (by decide +kernel) (by decide +kernel)
set_option maxRecDepth 20000 in
theorem gL_act_X3_setWord : GoodIn wsL_act (wsV RL 40 RX3 yX3_setWord wsX3_setWord) := goodIn_app (goodIn_of _ (by decide +kernel)) ggL_act_X3_setWord
set_option maxRecDepth 20000 in
theorem ggL_act_X3_addShot : GoodIn wsL_act wsX3_addShot := goodIn_r _ [102, 11, 103, 13, 14, 9, 15, 104, 105, 106, 22, 107, 45, 40, 108, 109, 110, 111, 25, 26, 27, 28, 29, 30, 31, 32, 33, 34, 35, 36, 37, 38, 24, 39, 41, 42, 43, 44, 46, 47, 48, 49, 50, 51, 52, 53, 54, 55, 56, 57, 58, 59, 60, 61, 112, 113, 114, 115, 237, 238, 239, 240, 241, 242, 243, 244, 245, 246, 247, 248, 249, 250, 251, 252, 253, 254, 255, 256, 257] (by decide +kernel) (by decide +kernel)
set_option maxRecDepth 20000 in
theorem gL_act_X3_addShot : GoodIn wsL_act (wsV RL 44 RX3 yX3_addShot wsX3_addShot) := goodIn_app (goodIn_of _ (by decide +kernel)) ggL_act_X3_addShot
set_option maxRecDepth 20000 in
theorem ggL_act_X3_removeShot : GoodIn wsL_act wsX3_removeShot := goodIn_r _ [119, 11, 103, 13, 14, 9, 15, 104, 105, 106, 22, 107, 45, 40, 25, 26, 27, 28, 29, 30, 31, 32, 33, 34, 35, 36, 37, 38, 24, 39, 41, 42, 43, 44, 46, 47, 48, 49, 50, 51, 52, 53, 54, 55, 56, 57, 58, 59, 60, 61, 120, 121, 122, 123, 237, 238, 239, 240, 241, 242, 243, 244, 245, 246, 247, 248, 249, 250, 251, 252, 253, 254, 255, 256, 257] (by decide +kernel) (by decide +kernel)
set_option maxRecDepth 20000 in
theorem gL_act_X3_removeShot : GoodIn wsL_act (wsV RL 47 RX3 yX3_removeShot wsX3_removeShot) := goodIn_app (goodIn_of _ (by decide +kernel)) ggL_act_X3_removeShot
set_option maxRecDepth 20000 in
theorem ggL_act_X3_setSpeed : GoodIn wsL_act wsX3_setSpeed := goodIn_r _ [127, 11, 128, 13, 14, 9, 15, 25, 26, 27, 28, 29, 30, 31, 32, 33, 34, 35, 36, 37, 22, 38, 24, 39, 40, 41, 42, 43, 44, 45, 46, 47, 48, 49, 50, 51, 52, 53, 54, 55, 56, 57, 58, 59, 60, 61, 237, 238, 239, 240, 241, 242, 243, 244, 245, 246, 247, 248, 249, 250, 251, 252, 253, 254, 255, 256, 257] (by decide +kernel) (by decide +kernel)
set_option maxRecDepth 20000 in
theorem gL_act_X3_setSpeed : GoodIn wsL_act (wsV RL 50 RX3 yX3_setSpeed wsX3_setSpeed) := goodIn_app (goodIn_of _ (by decide +kernel)) ggL_act_X3_setSpeed
set_option maxRecDepth 20000 in
theorem ggL_act_X3_take : GoodIn wsL_act wsX3_take := goodIn_r _ [132, 11, 89, 90, 77, 78, 79, 22, 80, 24, 25, 26, 27, 9, 28, 29, 30, 31, 32, 33, 34, 35, 36, 37, 38, 39, 40, 41, 42, 43, 44, 45, 46, 47, 48, 49, 50, 51, 52, 53, 54, 55, 56, 57, 58, 59, 60, 61, 133, 134, 135, 136, 72, 237, 238, 239, 240, 241, 242, 243, 244, 245, 246, 247, 248, 249, 250, 251, 252, 253, 254, 255, 256, 257] (by decide +kernel) (by decide +kernel)
set_option maxRecDepth 20000 in
theorem gL_act_X3_take : GoodIn wsL_act (wsV RL 53 RX3 yX3_take wsX3_take) := goodIn_app (goodIn_of _ (by decide +kernel)) ggL_act_X3_take
