/-! LAW: the words of what it calls (2) -/
set_option maxRecDepth 20000 in
theorem ggL_isRight_X3_shot : GoodIn wsL_isRight wsX3_shot := goodIn_r _ [159, 6, 8, 160, 161, 162, 163, 164, 165, 166, 167, 168, 169, 170, 171, 172] (by decide +kernel) (by decide +kernel)
set_option maxRecDepth 20000 in
theorem gL_isRight_X3_shot : GoodIn wsL_isRight (wsV RL 25 RX3 yX3_shot wsX3_shot) := goodIn_app (goodIn_of _ (by decide +kernel)) ggL_isRight_X3_shot
set_option maxRecDepth 20000 in
theorem ggL_law_X3_init : GoodIn wsL_law wsX3_init := goodIn_r _ [5, 6, 7, 8, 9, 10, 11, 12, 13, 14, 15, 16, 17, 18, 19, 20, 21, 22, 23, 24, 25, 26, 27, 28, 29, 30, 31, 32, 33, 34, 35, 36, 37, 38, 39, 40, 466, 467, 468, 469, 470, 471, 472, 461, 462, 463, 464, 465, 473, 474, 475, 476, 477, 478, 479, 480, 481, 482, 483, 484, 485, 486] (by decide +kernel) (by decide +kernel)
set_option maxRecDepth 20000 in
theorem gL_law_X3_init : GoodIn wsL_law (wsX3_init) := ggL_law_X3_init
set_option maxRecDepth 20000 in
theorem ggL_law_L_cell : GoodIn wsL_law wsL_cell := goodIn_r _ [44] (by decide +kernel) (by decide +kernel)
set_option maxRecDepth 20000 in
theorem gL_law_L_cell : GoodIn wsL_law (va_wsS RL 76 yL_cell wsL_cell) := goodIn_app (goodIn_of _ (by decide +kernel)) ggL_law_L_cell
set_option maxRecDepth 20000 in
theorem ggL_law_L_low : GoodIn wsL_law wsL_low := goodIn_r _ [47, 48] (by decide +kernel) (by decide +kernel)
set_option maxRecDepth 20000 in
theorem gL_law_L_low : GoodIn wsL_law (va_wsS RL 28 yL_low wsL_low) := goodIn_app (goodIn_of _ (by decide +kernel)) ggL_law_L_low
set_option maxRecDepth 20000 in
theorem ggL_law_X3_addWord : GoodIn wsL_law wsX3_addWord := goodIn_r _ [52, 12, 53, 54, 55, 2, 56, 57, 58, 59, 60, 61, 62, 11, 63, 64, 65, 66, 67, 68, 15, 14, 69, 70, 71, 72, 73, 74, 75, 76, 25, 27, 77, 78, 79, 80, 81, 28, 82, 83, 84, 30, 85, 36, 86, 87, 88, 89, 90, 91, 92, 93, 94, 95, 96, 97, 98, 99, 100, 101, 102, 103, 104, 105, 461, 462, 463, 464, 465, 466, 467, 468, 469, 470, 471, 472, 478, 479, 480, 481, 482, 483, 484, 485, 486] (by decide +kernel) (by decide +kernel)
set_option maxRecDepth 20000 in
theorem gL_law_X3_addWord : GoodIn wsL_law (wsV RL 33 RX3 yX3_addWord wsX3_addWord) := goodIn_app (goodIn_of _ (by decide +kernel)) ggL_law_X3_addWord
set_option maxRecDepth 20000 in
theorem ggL_law_L_digest : GoodIn wsL_law wsL_digest := goodIn_r _ [108, 109, 110, 111, 112, 113, 2, 114, 12, 53, 115, 116, 15, 19, 117, 118, 119, 120, 11, 121, 64, 25, 105, 122, 123, 124, 125, 126, 127, 128, 129, 130, 101, 131, 132, 133, 134, 135, 136, 137, 138, 139, 140, 30, 141, 91, 142, 143, 144, 145, 104, 81, 27, 146, 147, 148, 149, 88, 89, 90, 150, 151, 152, 153, 154, 155, 156, 157, 94, 87, 93, 158, 159, 160, 161, 28, 162, 163, 164, 165, 166, 100, 167, 168, 169, 170, 171, 172, 173, 174, 175, 176, 177, 178, 179, 180, 181, 182, 183, 184, 185, 186, 187, 188, 189, 190, 191, 192, 54, 55, 56, 193, 194, 195, 196, 197, 198, 199, 200, 201, 202, 203, 204, 205, 206, 207, 461, 462, 463, 464, 465, 466, 467, 468, 469, 470, 471, 472, 473, 474, 475, 476, 477, 478, 479, 480, 481, 482, 483, 484, 485, 486] (by decide +kernel) (by decide +kernel)
set_option maxRecDepth 20000 in
theorem gL_law_L_digest : GoodIn wsL_law (va_wsS RL 80 yL_digest wsL_digest) := goodIn_app (goodIn_of _ (by decide +kernel)) ggL_law_L_digest
set_option maxRecDepth 20000 in
theorem ggL_law_X3_count : GoodIn wsL_law wsX3_count := goodIn_r _ [114, 12, 53, 115, 116, 15, 19, 117, 118, 119, 120, 11, 121, 64, 25, 105, 122, 123, 124, 125, 126, 127, 128, 129, 130, 101, 131, 132, 133, 134, 135, 136, 137, 138, 139, 140, 30, 141, 91, 142, 143, 144, 145, 104, 81, 27, 146, 147, 148, 149, 88, 89, 90, 150, 151, 152, 153, 154, 155, 156, 157, 94, 87, 93, 158, 159, 160, 161, 28, 162, 163, 164, 165, 166, 100, 167, 168, 169, 170, 171, 172, 173, 174, 175, 176, 177, 178, 179, 461, 462, 463, 464, 465, 466, 467, 468, 469, 470, 471, 472, 473, 474, 475, 476, 477, 478, 479, 480, 481, 482, 483, 484, 485, 486] (by decide +kernel) (by decide +kernel)
set_option maxRecDepth 20000 in
theorem gL_law_X3_count : GoodIn wsL_law (wsV RL 12 RX3 yX3_count wsX3_count) := goodIn_app (goodIn_of _ (by decide +kernel)) ggL_law_X3_count
set_option maxRecDepth 20000 in
theorem ggL_law_L_act : GoodIn wsL_law wsL_act := goodIn_r _ [210, 45, 46, 43, 47, 48, 49, 50, 51, 2, 52, 12, 53, 54, 55, 56, 57, 58, 59, 60, 61, 62, 11, 63, 64, 65, 66, 67, 68, 15, 14, 69, 70, 71, 72, 73, 74, 75, 76, 25, 27, 77, 78, 79, 80, 81, 28, 82, 83, 84, 30, 85, 36, 86, 87, 88, 89, 90, 91, 92, 93, 94, 95, 96, 97, 98, 99, 100, 101, 102, 103, 104, 105, 211, 212, 213, 214, 189, 190, 191, 192, 215, 216, 217, 218, 219, 220, 221, 222, 184, 186, 193, 194, 195, 196, 223, 224, 225, 226, 227, 228, 229, 230, 115, 231, 232, 233, 234, 235, 236, 237, 238, 239, 240, 241, 242, 243, 244, 245, 246, 247, 248, 249, 250, 251, 252, 253, 254, 116, 255, 256, 257, 258, 118, 119, 120, 121, 259, 260, 261, 262, 263, 264, 265, 266, 267, 268, 269, 270, 271, 32, 272, 273, 274, 275, 276, 277, 278, 279, 280, 281, 282, 283, 284, 285, 286, 31, 287, 288, 289, 290, 126, 127, 128, 129, 130, 131, 132, 133, 134, 135, 136, 137, 138, 139, 140, 141, 142, 143, 144, 145, 146, 147, 148, 149, 150, 151, 152, 153, 154, 155, 156, 157, 158, 159, 160, 161, 162, 163, 164, 165, 166, 167, 168, 169, 170, 171, 172, 173, 174, 175, 176, 177, 178, 179, 291, 292, 293, 294, 295, 296, 297, 298, 299, 300, 301, 302, 461, 462, 463, 464, 465, 466, 467, 468, 469, 470, 471, 472, 478, 479, 480, 481, 482, 483, 484, 485, 486] (by decide +kernel) (by decide +kernel)
set_option maxRecDepth 20000 in
theorem gL_law_L_act : GoodIn wsL_law (va_wsS RL 84 yL_act wsL_act) := goodIn_app (goodIn_of _ (by decide +kernel)) ggL_law_L_act
set_option maxRecDepth 20000 in
theorem ggL_law_L_isRight : GoodIn wsL_law wsL_isRight := goodIn_r _ [305, 111, 112, 113, 2, 114, 12, 53, 115, 116, 15, 19, 117, 118, 119, 120, 11, 121, 64, 25, 105, 122, 123, 124, 125, 126, 127, 128, 129, 130, 101, 131, 132, 133, 134, 135, 136, 137, 138, 139, 140, 30, 141, 91, 142, 143, 144, 145, 104, 81, 27, 146, 147, 148, 149, 88, 89, 90, 150, 151, 152, 153, 154, 155, 156, 157, 94, 87, 93, 158, 159, 160, 161, 28, 162, 163, 164, 165, 166, 100, 167, 168, 169, 170, 171, 172, 173, 174, 175, 176, 177, 178, 179, 180, 181, 182, 183, 184, 185, 186, 187, 188, 189, 190, 191, 192, 54, 55, 56, 193, 194, 195, 196, 197, 306, 307, 308, 309, 310, 311, 312, 313, 314, 315, 316, 317, 318, 319, 320, 321, 322, 323, 324, 325, 326, 327, 328, 329, 330, 331, 332, 333, 334, 335, 336, 337, 338, 339, 340, 341, 342, 343, 344, 345, 346, 347, 203, 204, 205, 206, 207, 461, 462, 463, 464, 465, 466, 467, 468, 469, 470, 471, 472, 473, 474, 475, 476, 477, 478, 479, 480, 481, 482, 483, 484, 485, 486] (by decide +kernel) (by decide +kernel)
set_option maxRecDepth 20000 in
theorem gL_law_L_isRight : GoodIn wsL_law (va_wsS RL 88 yL_isRight wsL_isRight) := goodIn_app (goodIn_of _ (by decide +kernel)) ggL_law_L_isRight
set_option maxRecDepth 20000 in
theorem ggL_law_X3_undo : GoodIn wsL_law wsX3_undo := goodIn_r _ [351, 15, 12, 14, 73, 74, 75, 11, 76, 64, 25, 27, 77, 78, 79, 80, 81, 28, 82, 83, 84, 30, 85, 36, 86, 87, 88, 89, 90, 91, 92, 93, 94, 461, 462, 463, 464, 465, 466, 467, 468, 469, 470, 471, 472, 478, 479, 480, 481, 482, 483, 484, 485, 486] (by decide +kernel) (by decide +kernel)
set_option maxRecDepth 20000 in
theorem gL_law_X3_undo : GoodIn wsL_law (wsV RL 92 RX3 yX3_undo wsX3_undo) := goodIn_app (goodIn_of _ (by decide +kernel)) ggL_law_X3_undo
