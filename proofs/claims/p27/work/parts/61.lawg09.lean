/-! LAW: the words of what it calls (9) -/
set_option maxRecDepth 20000 in
theorem ghL_isRight_c : GoodIn wsL_law [.code yL_isRight cL_isRight 9 (some .boolean)] := goodIn_r _ [305] (by decide +kernel) (by decide +kernel)
set_option maxRecDepth 20000 in
theorem ghL_isRight_wsL_isRight_r1 : GoodIn wsL_law wsL_isRight_r1 := goodIn_r _ [111, 112, 113, 2, 114, 12, 53, 115, 116, 15, 19, 117, 118, 119, 120, 11, 121, 64, 25, 105, 122, 123, 124, 125] (by decide +kernel) (by decide +kernel)
set_option maxRecDepth 20000 in
theorem ghL_isRight_wsL_isRight_r2 : GoodIn wsL_law wsL_isRight_r2 := goodIn_r _ [126, 127, 128, 129, 130, 101, 131, 132, 133, 134, 135, 136, 137, 138, 139, 140, 30, 141, 91, 142, 143, 144, 145, 104] (by decide +kernel) (by decide +kernel)
set_option maxRecDepth 20000 in
theorem ghL_isRight_wsL_isRight_r3 : GoodIn wsL_law wsL_isRight_r3 := goodIn_r _ [81, 27, 146, 147, 148, 149, 88, 89, 90, 150, 151, 152, 153, 154, 155, 156, 157, 94, 87, 93, 158, 159, 160, 161] (by decide +kernel) (by decide +kernel)
set_option maxRecDepth 20000 in
theorem ghL_isRight_wsL_isRight_r4 : GoodIn wsL_law wsL_isRight_r4 := goodIn_r _ [28, 162, 163, 164, 165, 166, 100, 167, 168, 169, 170, 171, 172, 173, 174, 175, 176, 177, 178, 179, 180, 181, 182, 183] (by decide +kernel) (by decide +kernel)
set_option maxRecDepth 20000 in
theorem ghL_isRight_wsL_isRight_r5 : GoodIn wsL_law wsL_isRight_r5 := goodIn_r _ [184, 185, 186, 187, 188, 189, 190, 191, 192, 54, 55, 56, 193, 194, 195, 196, 197, 306, 307, 308, 309, 310, 311, 312] (by decide +kernel) (by decide +kernel)
set_option maxRecDepth 20000 in
theorem ghL_isRight_wsL_isRight_r6 : GoodIn wsL_law wsL_isRight_r6 := goodIn_r _ [313, 314, 315, 316, 317, 318, 319, 320, 321, 322, 323, 324, 325, 326, 327, 328, 329, 330, 331, 332, 333, 334, 335, 336] (by decide +kernel) (by decide +kernel)
set_option maxRecDepth 20000 in
theorem ghL_isRight_wsL_isRight_r7 : GoodIn wsL_law wsL_isRight_r7 := goodIn_r _ [337, 338, 339, 340, 341, 342, 343, 344, 345, 346, 347, 203, 204, 205, 206, 207] (by decide +kernel) (by decide +kernel)
set_option maxRecDepth 20000 in
theorem ghL_isRight_wsX30 : GoodIn wsL_law wsX30 := goodIn_r _ [461, 462, 463, 464, 465] (by decide +kernel) (by decide +kernel)
set_option maxRecDepth 20000 in
theorem ghL_isRight_wsX00 : GoodIn wsL_law wsX00 := goodIn_r _ [466, 467, 468, 469, 470, 471, 472] (by decide +kernel) (by decide +kernel)
set_option maxRecDepth 20000 in
theorem ghL_isRight_wsX10 : GoodIn wsL_law wsX10 := goodIn_r _ [473, 474, 475, 476, 477] (by decide +kernel) (by decide +kernel)
set_option maxRecDepth 20000 in
theorem ghL_isRight_wsX20 : GoodIn wsL_law wsX20 := goodIn_r _ [478, 479, 480, 481, 482, 483, 484, 485, 486] (by decide +kernel) (by decide +kernel)
theorem ggL_law_L_isRight : GoodIn wsL_law wsL_isRight := goodIn_app ghL_isRight_c (goodIn_app (goodIn_app (goodIn_app (goodIn_app (goodIn_app ghL_isRight_wsL_isRight_r1 (goodIn_app ghL_isRight_wsL_isRight_r2 (goodIn_app ghL_isRight_wsL_isRight_r3 (goodIn_app ghL_isRight_wsL_isRight_r4 (goodIn_app ghL_isRight_wsL_isRight_r5 (goodIn_app ghL_isRight_wsL_isRight_r6 ghL_isRight_wsL_isRight_r7)))))) ghL_isRight_wsX30) ghL_isRight_wsX00) ghL_isRight_wsX10) ghL_isRight_wsX20)
