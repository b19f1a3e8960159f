/-! LAW: the words of what it calls (1) -/
set_option maxRecDepth 20000 in
theorem ggL_act_X3_setSpeed : GoodIn wsL_act wsX3_setSpeed := goodIn_r _ [127, 11, 128, 13, 14, 9, 15, 25, 26, 27, 28, 29, 30, 31, 32, 33, 34, 35, 36, 37, 22, 38, 24, 39, 40, 41, 42, 43, 44, 45, 46, 47, 48, 49, 50, 51, 52, 53, 54, 55, 56, 57, 58, 59, 60, 61, 237, 238, 239, 240, 241, 242, 243, 244, 245, 246, 247, 248, 249, 250, 251, 252, 253, 254, 255, 256, 257] (by decide +kernel) (by decide +kernel)
set_option maxRecDepth 20000 in
theorem gL_act_X3_setSpeed : GoodIn wsL_act (wsV RL 50 RX3 yX3_setSpeed wsX3_setSpeed) := goodIn_app (goodIn_of _ (by decide +kernel)) ggL_act_X3_setSpeed
set_option maxRecDepth 20000 in
theorem ggL_act_X3_take : GoodIn wsL_act wsX3_take := goodIn_r _ [132, 11, 89, 90, 77, 78, 79, 22, 80, 24, 25, 26, 27, 9, 28, 29, 30, 31, 32, 33, 34, 35, 36, 37, 38, 39, 40, 41, 42, 43, 44, 45, 46, 47, 48, 49, 50, 51, 52, 53, 54, 55, 56, 57, 58, 59, 60, 61, 133, 134, 135, 136, 72, 237, 238, 239, 240, 241, 242, 243, 244, 245, 246, 247, 248, 249, 250, 251, 252, 253, 254, 255, 256, 257] (by decide +kernel) (by decide +kernel)
set_option maxRecDepth 20000 in
theorem gL_act_X3_take : GoodIn wsL_act (wsV RL 53 RX3 yX3_take wsX3_take) := goodIn_app (goodIn_of _ (by decide +kernel)) ggL_act_X3_take
set_option maxRecDepth 20000 in
theorem ggL_act_X3_putAll : GoodIn wsL_act wsX3_putAll := goodIn_r _ [140, 11, 12, 141, 25, 26, 27, 9, 28, 29, 30, 31, 32, 33, 34, 35, 36, 37, 22, 38, 24, 39, 40, 41, 42, 43, 44, 45, 46, 47, 48, 49, 50, 51, 52, 53, 54, 55, 56, 57, 58, 59, 60, 61, 142, 143, 144, 145, 72, 146, 147, 148, 149, 150, 151, 152, 153, 68, 67, 154, 155, 156, 157, 158, 159, 160, 161, 162, 163, 164, 165, 166, 167, 168, 169, 170, 171, 172, 173, 174, 175, 176, 177, 178, 179, 180, 181, 182, 183, 184, 185, 186, 187, 188, 189, 190, 71, 191, 192, 193, 194, 195, 196, 197, 198, 199, 200, 201, 202, 203, 204, 205, 206, 207, 208, 209, 210, 211, 212, 213, 214, 215, 216, 217, 218, 219, 220, 221, 222, 223, 224, 133, 134, 135, 136, 237, 238, 239, 240, 241, 242, 243, 244, 245, 246, 247, 248, 249, 250, 251, 252, 253, 254, 255, 256, 257] (by decide +kernel) (by decide +kernel)
set_option maxRecDepth 20000 in
theorem gL_act_X3_putAll : GoodIn wsL_act (wsV RL 56 RX3 yX3_putAll wsX3_putAll) := goodIn_app (goodIn_of _ (by decide +kernel)) ggL_act_X3_putAll
set_option maxRecDepth 20000 in
theorem ggL_act_X3_put : GoodIn wsL_act wsX3_put := goodIn_r _ [228, 11, 89, 229, 230, 231, 232, 9, 233, 77, 78, 79, 22, 80, 24, 13, 14, 15, 234, 159, 160, 50, 161, 54, 235, 163, 164, 165, 166, 39, 68, 47, 48, 49, 51, 52, 53, 42, 43, 44, 55, 56, 57, 58, 59, 60, 61, 167, 168, 169, 170, 171, 172, 173, 174, 72, 175, 176, 177, 178, 179, 180, 181, 182, 183, 184, 185, 186, 187, 188, 189, 190, 71, 45, 40, 191, 192, 193, 194, 195, 196, 197, 198, 199, 200, 201, 202, 203, 204, 205, 206, 46, 207, 208, 209, 210, 211, 67, 212, 213, 214, 215, 216, 217, 218, 219, 220, 221, 222, 223, 224, 25, 26, 27, 28, 29, 30, 31, 32, 33, 34, 35, 36, 37, 38, 41, 236, 133, 134, 135, 136, 237, 238, 239, 240, 241, 242, 243, 244, 245, 246, 247, 248, 249, 250, 251, 252, 253, 254, 255, 256, 257] (by decide +kernel) (by decide +kernel)
set_option maxRecDepth 20000 in
theorem gL_act_X3_put : GoodIn wsL_act (wsV RL 60 RX3 yX3_put wsX3_put) := goodIn_app (goodIn_of _ (by decide +kernel)) ggL_act_X3_put
set_option maxRecDepth 20000 in
theorem ggL_isRight_X3_count : GoodIn wsL_isRight wsX3_count := goodIn_r _ [5, 6, 7, 8, 9, 10, 11, 12, 13, 14, 15, 16, 17, 18, 19, 20, 21, 22, 23, 24, 25, 26, 27, 28, 29, 30, 31, 32, 33, 34, 35, 36, 37, 38, 39, 40, 41, 42, 43, 44, 45, 46, 47, 48, 49, 50, 51, 52, 53, 54, 55, 56, 57, 58, 59, 60, 61, 62, 63, 64, 65, 66, 67, 68, 69, 70, 71, 72, 73, 74, 75, 76, 77, 78, 79, 80, 81, 82, 83, 84, 85, 86, 87, 88, 89, 90, 91, 92, 161, 162, 163, 164, 165, 166, 167, 168, 169, 170, 171, 172, 173, 174, 175, 176, 177, 178, 179, 180, 181, 182, 183, 184, 185, 186] (by decide +kernel) (by decide +kernel)
set_option maxRecDepth 20000 in
theorem gL_isRight_X3_count : GoodIn wsL_isRight (wsV RL 12 RX3 yX3_count wsX3_count) := goodIn_app (goodIn_of _ (by decide +kernel)) ggL_isRight_X3_count
set_option maxRecDepth 20000 in
theorem ggL_isRight_X3_word : GoodIn wsL_isRight wsX3_word := goodIn_r _ [96, 6, 97, 98, 99, 100, 101, 102, 103, 104, 16, 105, 18, 106, 107, 4, 108, 109, 110, 111, 41, 112, 55, 56, 57, 43, 113, 45, 46, 47, 48, 49, 50, 30, 35, 36, 33, 37, 51, 52, 53, 54, 58, 59, 60, 61, 62, 63, 64, 65, 66, 67, 68, 69, 70, 71, 72, 73, 74, 161, 162, 163, 164, 165, 166, 167, 168, 169, 170, 171, 172, 178, 179, 180, 181, 182, 183, 184, 185, 186] (by decide +kernel) (by decide +kernel)
set_option maxRecDepth 20000 in
theorem gL_isRight_X3_word : GoodIn wsL_isRight (wsV RL 18 RX3 yX3_word wsX3_word) := goodIn_app (goodIn_of _ (by decide +kernel)) ggL_isRight_X3_word
set_option maxRecDepth 20000 in
theorem ggL_isRight_X3_where : GoodIn wsL_isRight wsX3_where := goodIn_r _ [117, 6, 97, 102, 103, 104, 16, 105, 18, 118, 119, 4, 120, 106, 107, 108, 121, 122, 123, 124, 20, 30, 44, 45, 46, 47, 48, 49, 50, 35, 36, 33, 37, 51, 52, 53, 41, 54, 55, 56, 57, 58, 59, 60, 61, 62, 63, 64, 65, 43, 66, 67, 68, 69, 70, 71, 72, 73, 74, 125, 81, 82, 83, 29, 84, 85, 86, 87, 126, 89, 90, 91, 92, 161, 162, 163, 164, 165, 166, 167, 168, 169, 170, 171, 172, 178, 179, 180, 181, 182, 183, 184, 185, 186] (by decide +kernel) (by decide +kernel)
set_option maxRecDepth 20000 in
theorem gL_isRight_X3_where : GoodIn wsL_isRight (wsV RL 63 RX3 yX3_where wsX3_where) := goodIn_app (goodIn_of _ (by decide +kernel)) ggL_isRight_X3_where
set_option maxRecDepth 20000 in
theorem ggL_isRight_X3_onScreen : GoodIn wsL_isRight wsX3_onScreen := goodIn_r _ [130, 6, 118, 119, 4, 120, 106, 107, 108, 131, 132, 133, 16, 134, 18, 19, 135, 122, 123, 124, 20, 30, 44, 45, 46, 47, 48, 49, 50, 35, 36, 33, 37, 51, 52, 53, 41, 54, 55, 56, 57, 58, 59, 60, 61, 62, 63, 64, 65, 43, 66, 67, 68, 69, 70, 71, 72, 73, 74, 161, 162, 163, 164, 165, 166, 167, 168, 169, 170, 171, 172, 178, 179, 180, 181, 182, 183, 184, 185, 186] (by decide +kernel) (by decide +kernel)
set_option maxRecDepth 20000 in
theorem gL_isRight_X3_onScreen : GoodIn wsL_isRight (wsV RL 66 RX3 yX3_onScreen wsX3_onScreen) := goodIn_app (goodIn_of _ (by decide +kernel)) ggL_isRight_X3_onScreen
set_option maxRecDepth 20000 in
theorem ggL_isRight_X3_filled : GoodIn wsL_isRight wsX3_filled := goodIn_r _ [139, 6, 118, 119, 4, 120, 106, 107, 108, 140, 141, 142, 16, 143, 18, 19, 79, 35, 36, 33, 37, 31, 32, 34, 135, 122, 123, 124, 20, 30, 44, 45, 46, 47, 48, 49, 50, 51, 52, 53, 41, 54, 55, 56, 57, 58, 59, 60, 61, 62, 63, 64, 65, 43, 66, 67, 68, 69, 70, 71, 72, 73, 74, 80, 81, 82, 83, 29, 84, 85, 86, 87, 88, 89, 90, 91, 92, 144, 145, 146, 147, 148, 149, 150, 161, 162, 163, 164, 165, 166, 167, 168, 169, 170, 171, 172, 178, 179, 180, 181, 182, 183, 184, 185, 186] (by decide +kernel) (by decide +kernel)
set_option maxRecDepth 20000 in
theorem gL_isRight_X3_filled : GoodIn wsL_isRight (wsV RL 69 RX3 yX3_filled wsX3_filled) := goodIn_app (goodIn_of _ (by decide +kernel)) ggL_isRight_X3_filled
set_option maxRecDepth 20000 in
theorem ggL_isRight_X3_meeting : GoodIn wsL_isRight wsX3_meeting := goodIn_r _ [154, 6, 97, 102, 103, 104, 16, 105, 18, 155, 26, 27, 28, 20, 29, 30, 31, 32, 33, 34, 35, 36, 37, 38, 39, 40, 41, 42, 43, 44, 45, 46, 47, 48, 49, 50, 51, 52, 53, 54, 55, 56, 57, 58, 59, 60, 61, 62, 63, 64, 65, 66, 67, 68, 69, 70, 71, 72, 73, 74, 75, 76, 77, 78, 79, 80, 81, 82, 83, 84, 85, 86, 87, 88, 89, 90, 91, 92, 161, 162, 163, 164, 165, 166, 167, 168, 169, 170, 171, 172, 178, 179, 180, 181, 182, 183, 184, 185, 186] (by decide +kernel) (by decide +kernel)
set_option maxRecDepth 20000 in
theorem gL_isRight_X3_meeting : GoodIn wsL_isRight (wsV RL 72 RX3 yX3_meeting wsX3_meeting) := goodIn_app (goodIn_of _ (by decide +kernel)) ggL_isRight_X3_meeting
